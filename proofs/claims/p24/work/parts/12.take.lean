def m_X0_whySilent_r (u : CS) (q : Nat → Int32) : Int32 := if (m_X3_isCalled_r q) = 0 then (if q 4 = 0 then (if (m_X0_hasFrame_r u (q 6)) = 0 then nI 3 else if q 5 < q 2 then (if (u 0 2) - (u 3 (tn (q 6))) < q 1 then nI 4 else nI 0) else if (u 0 2) - (u 3 (tn (q 6))) < q 1 then nI 0 else nI 0) else nI 2) else nI 1
set_option maxHeartbeats 4000000 in
set_option maxRecDepth 100000 in
theorem c_X0_whySilent (l : Launch) (D : va_G) (k : Nat → ClassId) (a : Nat → Nat) (b : Nat) (u : CS) (q : Nat → Int32)  (hc : CM u)  : mI l yX0_whySilent (wsY yX0_whySilent cX0_whySilent 4 (some .int)) 1 D k [.ref (a 0), .ref b] [cO a u, cCa k a u, qC b q] [cO a u, cCa k a u, qC b q] (m_X0_whySilent_r u q) := by
  refine mI_intro rfl (Nat.le_of_ble_eq_true rfl) (Or.inl rfl) ?_
  intro p e s m args below meth c A Q ls X hW hl hQ
  have hx := X.hx
  have hb := X.hb
  have hl : lv_has ls 4 [(0, .ref (a 0)), (1, .ref b)] := hl
  have hc4 := hc.2.1
  refine lv_aload_n hx hb dX0_whySilent_0 rfl (lv_at hl 1 rfl) ?_
  obtain ⟨z_1, hz_1⟩ : ∃ zq, m_X3_isCalled_r q = zq := ⟨_, rfl⟩
  have hM_2 := (c_X3_isCalled l D k b q )
  rw [hz_1] at hM_2
  refine kNi (As := []) (rest := []) X hW hM_2 yw_X3_isCalled lkn_X0_89 ⟨Nat.le_of_ble_eq_true rfl, Nat.le_of_ble_eq_true rfl⟩ (wr := [cO a u, cCa k a u]) (w_idx (n := 3) [0, 1, 2] rfl (by decide) rfl) (w' := [cO a u, cCa k a u, qC b q]) (w_idx (n := 3) [0, 1, 2] rfl (by decide) rfl) (k_rcv X hW (ci := 3) (q0 := 2) rfl rfl) rfl hl.1 rfl (Nat.le_of_ble_eq_true rfl) ⟨Nat.zero_le _, Nat.zero_le _⟩ dX0_whySilent_1 (fun H locs hW => ?_)
  refine lv_if_eq (tgt := 9) hx hb dX0_whySilent_4 (by decide) (fun c_3 => ?_) (fun c_3 => ?_)
  · refine lv_aload_n hx hb dX0_whySilent_9 rfl (lv_at hl 1 rfl) ?_
    refine k_getN X hW inG3 rfl 4 (by decide) fln_X0_85 rfl 2 rfl (v := .int (q 4)) rfl dX0_whySilent_10 ?_
    refine lv_if_eq (tgt := 18) hx hb dX0_whySilent_13 (by decide) (fun c_4 => ?_) (fun c_4 => ?_)
    · refine lv_aload_n hx hb dX0_whySilent_18 rfl (lv_at hl 0 rfl) ?_
      refine lv_aload_n hx hb dX0_whySilent_19 rfl (lv_at hl 1 rfl) ?_
      refine k_getN X hW inG3 rfl 6 (by decide) fln_X0_82 rfl 2 rfl (v := .int (q 6)) rfl dX0_whySilent_20 ?_
      obtain ⟨z_5, hz_5⟩ : ∃ zq, m_X0_hasFrame_r u (q 6) = zq := ⟨_, rfl⟩
      have hM_6 := (c_X0_hasFrame l D k a u (q 6))
      rw [hz_5] at hM_6
      refine kVi (As := [.int (q 6)]) (rest := []) X hW hM_6 yw_X0_hasFrame lk_X0_117 ⟨Nat.le_of_ble_eq_true rfl, Nat.le_of_ble_eq_true rfl⟩ (wr := [cCa k a u, qC b q]) (w_idx (n := 3) [1, 2, 0] rfl (by decide) rfl) (w' := [cO a u, cCa k a u, qC b q]) (w_idx (n := 3) [2, 0, 1] rfl (by decide) rfl) (k_rcv X hW (ci := 0) (q0 := 0) rfl rfl) rfl hl.1 rfl (Nat.le_of_ble_eq_true rfl) ⟨Nat.zero_le _, Nat.zero_le _⟩ dX0_whySilent_23 (fun H locs hW => ?_)
      refine lv_if_ne (tgt := 31) hx hb dX0_whySilent_26 (by decide) (fun c_7 => ?_) (fun c_7 => ?_)
      · obtain ⟨hi_8, hj_8⟩ := hf_n hc (by rw [hz_5]; exact c_7)
        refine lv_aload_n hx hb dX0_whySilent_31 rfl (lv_at hl 1 rfl) ?_
        refine k_getN X hW inG3 rfl 5 (by decide) fln_X0_76 rfl 2 rfl (v := .int (q 5)) rfl dX0_whySilent_32 ?_
        refine lv_aload_n hx hb dX0_whySilent_35 rfl (lv_at hl 1 rfl) ?_
        refine k_getN X hW inG3 rfl 2 (by decide) fln_X0_73 rfl 2 rfl (v := .int (q 2)) rfl dX0_whySilent_36 ?_
        refine lv_icmp_lt (tgt := 46) hx hb dX0_whySilent_39 (by decide) (fun c_9 => ?_) (fun c_9 => ?_)
        · refine lv_iconst (v := nI 0) hx hb dX0_whySilent_46 (by decide +kernel) ?_
          refine lv_istore_n (lv' := [(2, .int (nI 0)), (0, .ref (a 0)), (1, .ref b)]) hx hb dX0_whySilent_47 rfl hl (by decide) rfl (fun ls hl => ?_)
          refine lv_aload_n hx hb dX0_whySilent_48 rfl (lv_at hl 1 rfl) ?_
          refine k_get X hW inG0 rfl 2 (by decide) fl_X0_24 rfl 0 rfl (v := .int (u 0 2)) rfl dX0_whySilent_49 ?_
          refine lv_aload_n hx hb dX0_whySilent_52 rfl (lv_at hl 1 rfl) ?_
          refine k_get X hW inG0 rfl 5 (by decide) fl_X0_34 rfl 0 rfl (v := .ref (a 4)) rfl dX0_whySilent_53 ?_
          refine lv_aload_n hx hb dX0_whySilent_56 rfl (lv_at hl 2 rfl) ?_
          refine k_getN X hW inG3 rfl 6 (by decide) fln_X0_82 rfl 2 rfl (v := .int (q 6)) rfl dX0_whySilent_57 ?_
          refine k_top (y := nI (tn (q 6))) (hi_8) ?_
          refine k_iald X hW 1 rfl (j := (tn (q 6))) (v := u 3 (tn (q 6))) rfl (by omega) (by decide) rfl dX0_whySilent_60 ?_
          refine lv_isub hx hb dX0_whySilent_61 ?_
          refine lv_aload_n hx hb dX0_whySilent_62 rfl (lv_at hl 2 rfl) ?_
          refine k_getN X hW inG3 rfl 1 (by decide) fln_X0_70 rfl 2 rfl (v := .int (q 1)) rfl dX0_whySilent_63 ?_
          refine lv_icmp_lt (tgt := 73) hx hb dX0_whySilent_66 (by decide) (fun c_10 => ?_) (fun c_10 => ?_)
          · refine lv_iconst (v := nI 0) hx hb dX0_whySilent_73 (by decide +kernel) ?_
            refine lv_istore_n (lv' := [(3, .int (nI 0)), (2, .int (nI 0)), (0, .ref (a 0)), (1, .ref b)]) hx hb dX0_whySilent_74 rfl hl (by decide) rfl (fun ls hl => ?_)
            refine lv_iload_n hx hb dX0_whySilent_75 rfl (lv_at hl 1 rfl) ?_
            refine lv_if_ne (tgt := 83) hx hb dX0_whySilent_76 (by decide) (fun c => absurd (by decide +kernel) c) (fun _ => ?_)
            refine lv_iload_n hx hb dX0_whySilent_79 rfl (lv_at hl 0 rfl) ?_
            refine lv_if_eq (tgt := 87) hx hb dX0_whySilent_80 (by decide) (fun _ => ?_) (fun c => absurd (by decide +kernel) c)
            refine lv_iconst (v := nI 4) hx hb dX0_whySilent_87 (by decide +kernel) ?_
            exact hQ _ _ _ _ _ _ hW dX0_whySilent_88 (by subst hz_5; subst hz_1; rw [m_X0_whySilent_r, if_pos c_3, if_pos c_4, if_neg c_7, if_pos c_9, if_pos c_10]) rfl
          · refine lv_iconst (v := nI 1) hx hb dX0_whySilent_69 (by decide +kernel) ?_
            refine lv_goto (tgt := 74) hx hb dX0_whySilent_70 (by decide) ?_
            refine lv_istore_n (lv' := [(3, .int (nI 1)), (2, .int (nI 0)), (0, .ref (a 0)), (1, .ref b)]) hx hb dX0_whySilent_74 rfl hl (by decide) rfl (fun ls hl => ?_)
            refine lv_iload_n hx hb dX0_whySilent_75 rfl (lv_at hl 1 rfl) ?_
            refine lv_if_ne (tgt := 83) hx hb dX0_whySilent_76 (by decide) (fun c => absurd (by decide +kernel) c) (fun _ => ?_)
            refine lv_iload_n hx hb dX0_whySilent_79 rfl (lv_at hl 0 rfl) ?_
            refine lv_if_eq (tgt := 87) hx hb dX0_whySilent_80 (by decide) (fun c => absurd c (by decide +kernel)) (fun _ => ?_)
            refine lv_iconst (v := nI 0) hx hb dX0_whySilent_83 (by decide +kernel) ?_
            refine lv_goto (tgt := 88) hx hb dX0_whySilent_84 (by decide) ?_
            exact hQ _ _ _ _ _ _ hW dX0_whySilent_88 (by subst hz_5; subst hz_1; rw [m_X0_whySilent_r, if_pos c_3, if_pos c_4, if_neg c_7, if_pos c_9, if_neg c_10]) rfl
        · refine lv_iconst (v := nI 1) hx hb dX0_whySilent_42 (by decide +kernel) ?_
          refine lv_goto (tgt := 47) hx hb dX0_whySilent_43 (by decide) ?_
          refine lv_istore_n (lv' := [(2, .int (nI 1)), (0, .ref (a 0)), (1, .ref b)]) hx hb dX0_whySilent_47 rfl hl (by decide) rfl (fun ls hl => ?_)
          refine lv_aload_n hx hb dX0_whySilent_48 rfl (lv_at hl 1 rfl) ?_
          refine k_get X hW inG0 rfl 2 (by decide) fl_X0_24 rfl 0 rfl (v := .int (u 0 2)) rfl dX0_whySilent_49 ?_
          refine lv_aload_n hx hb dX0_whySilent_52 rfl (lv_at hl 1 rfl) ?_
          refine k_get X hW inG0 rfl 5 (by decide) fl_X0_34 rfl 0 rfl (v := .ref (a 4)) rfl dX0_whySilent_53 ?_
          refine lv_aload_n hx hb dX0_whySilent_56 rfl (lv_at hl 2 rfl) ?_
          refine k_getN X hW inG3 rfl 6 (by decide) fln_X0_82 rfl 2 rfl (v := .int (q 6)) rfl dX0_whySilent_57 ?_
          refine k_top (y := nI (tn (q 6))) (hi_8) ?_
          refine k_iald X hW 1 rfl (j := (tn (q 6))) (v := u 3 (tn (q 6))) rfl (by omega) (by decide) rfl dX0_whySilent_60 ?_
          refine lv_isub hx hb dX0_whySilent_61 ?_
          refine lv_aload_n hx hb dX0_whySilent_62 rfl (lv_at hl 2 rfl) ?_
          refine k_getN X hW inG3 rfl 1 (by decide) fln_X0_70 rfl 2 rfl (v := .int (q 1)) rfl dX0_whySilent_63 ?_
          refine lv_icmp_lt (tgt := 73) hx hb dX0_whySilent_66 (by decide) (fun c_15 => ?_) (fun c_15 => ?_)
          · refine lv_iconst (v := nI 0) hx hb dX0_whySilent_73 (by decide +kernel) ?_
            refine lv_istore_n (lv' := [(3, .int (nI 0)), (2, .int (nI 1)), (0, .ref (a 0)), (1, .ref b)]) hx hb dX0_whySilent_74 rfl hl (by decide) rfl (fun ls hl => ?_)
            refine lv_iload_n hx hb dX0_whySilent_75 rfl (lv_at hl 1 rfl) ?_
            refine lv_if_ne (tgt := 83) hx hb dX0_whySilent_76 (by decide) (fun _ => ?_) (fun c => absurd c (by decide +kernel))
            refine lv_iconst (v := nI 0) hx hb dX0_whySilent_83 (by decide +kernel) ?_
            refine lv_goto (tgt := 88) hx hb dX0_whySilent_84 (by decide) ?_
            exact hQ _ _ _ _ _ _ hW dX0_whySilent_88 (by subst hz_5; subst hz_1; rw [m_X0_whySilent_r, if_pos c_3, if_pos c_4, if_neg c_7, if_neg c_9, if_pos c_15]) rfl
          · refine lv_iconst (v := nI 1) hx hb dX0_whySilent_69 (by decide +kernel) ?_
            refine lv_goto (tgt := 74) hx hb dX0_whySilent_70 (by decide) ?_
            refine lv_istore_n (lv' := [(3, .int (nI 1)), (2, .int (nI 1)), (0, .ref (a 0)), (1, .ref b)]) hx hb dX0_whySilent_74 rfl hl (by decide) rfl (fun ls hl => ?_)
            refine lv_iload_n hx hb dX0_whySilent_75 rfl (lv_at hl 1 rfl) ?_
            refine lv_if_ne (tgt := 83) hx hb dX0_whySilent_76 (by decide) (fun _ => ?_) (fun c => absurd c (by decide +kernel))
            refine lv_iconst (v := nI 0) hx hb dX0_whySilent_83 (by decide +kernel) ?_
            refine lv_goto (tgt := 88) hx hb dX0_whySilent_84 (by decide) ?_
            exact hQ _ _ _ _ _ _ hW dX0_whySilent_88 (by subst hz_5; subst hz_1; rw [m_X0_whySilent_r, if_pos c_3, if_pos c_4, if_neg c_7, if_neg c_9, if_neg c_15]) rfl
      · refine lv_iconst (v := nI 3) hx hb dX0_whySilent_29 (by decide +kernel) ?_
        exact hQ _ _ _ _ _ _ hW dX0_whySilent_30 (by subst hz_5; subst hz_1; rw [m_X0_whySilent_r, if_pos c_3, if_pos c_4, if_pos c_7]) rfl
    · refine lv_iconst (v := nI 2) hx hb dX0_whySilent_16 (by decide +kernel) ?_
      exact hQ _ _ _ _ _ _ hW dX0_whySilent_17 (by subst hz_1; rw [m_X0_whySilent_r, if_pos c_3, if_neg c_4]) rfl
  · refine lv_iconst (v := nI 1) hx hb dX0_whySilent_7 (by decide +kernel) ?_
    exact hQ _ _ _ _ _ _ hW dX0_whySilent_8 (by subst hz_1; rw [m_X0_whySilent_r, if_neg c_3]) rfl
def lp_srch (how flow : Nat → Int32) (num : Int32) : Nat → Nat → Int32
  | 0, _ => (-6)
  | r + 1, i => if how i = 0 then (if flow i - flow i / nI 3 * nI 3 = num then nI i else lp_srch how flow num r (i + 1)) else lp_srch how flow num r (i + 1)
def m_X0_takeOldest_u4 (u : CS) (q : Nat → Int32) : Nat → Int32 := upd (u 4) (tn (q 6)) (nI 1)
def m_X0_takeOldest_u5 (u : CS) (q : Nat → Int32) : Nat → Int32 := upd (u 5) (tn (q 6)) (u 0 2)
def m_X0_takeOldest_q (u : CS) (q : Nat → Int32) (num : Int32) : Nat → Int32 := upd (m_X3_noteTaken_q q ((u 0 2) - (u 3 (tn (q 6))))) 6 (lp_srch (upd (u 4) (tn (q 6)) (nI 1)) (u 2) num (cn u - (tn (q 6) + 1)) (tn (q 6) + 1))
set_option maxHeartbeats 4000000 in
set_option maxRecDepth 100000 in
theorem c_X0_takeOldest (l : Launch) (D : va_G) (k : Nat → ClassId) (a : Nat → Nat) (b : Nat) (u : CS) (q : Nat → Int32) (num : Int32) (hc : CM u) (ho : q 6 = nI (tn (q 6))) (ho2 : tn (q 6) < cn u) : mV l yX0_takeOldest (wsY yX0_takeOldest cX0_takeOldest 5 none) 2 D k [.ref (a 0), .ref b, .int num] [cO a u, cFl k a u, cCa k a u, cHo k a u, cTa k a u, qC b q] [cO a (st2 (st2 u 4 (m_X0_takeOldest_u4 u q)) 5 (m_X0_takeOldest_u5 u q)), cFl k a (st2 (st2 u 4 (m_X0_takeOldest_u4 u q)) 5 (m_X0_takeOldest_u5 u q)), cCa k a (st2 (st2 u 4 (m_X0_takeOldest_u4 u q)) 5 (m_X0_takeOldest_u5 u q)), cHo k a (st2 (st2 u 4 (m_X0_takeOldest_u4 u q)) 5 (m_X0_takeOldest_u5 u q)), cTa k a (st2 (st2 u 4 (m_X0_takeOldest_u4 u q)) 5 (m_X0_takeOldest_u5 u q)), qC b (m_X0_takeOldest_q u q num)] := by
  refine mV_intro rfl (Nat.le_of_ble_eq_true rfl) ?_
  intro p e s m args below meth c A Q ls X hW hl hQ
  have hx := X.hx
  have hb := X.hb
  have hl : lv_has ls 5 [(0, .ref (a 0)), (1, .ref b), (2, .int num)] := hl
  have hc4 := hc.2.1
  refine lv_aload_n hx hb dX0_takeOldest_0 rfl (lv_at hl 1 rfl) ?_
  refine k_getN X hW inG3 rfl 6 (by decide) fln_X0_82 rfl 5 rfl (v := .int (q 6)) rfl dX0_takeOldest_1 ?_
  refine k_top (y := nI (tn (q 6))) (ho) ?_
  refine lv_istore_n (lv' := [(3, .int (nI (tn (q 6)))), (0, .ref (a 0)), (1, .ref b), (2, .int num)]) hx hb dX0_takeOldest_4 rfl hl (by decide) rfl (fun ls hl => ?_)
  refine lv_aload_n hx hb dX0_takeOldest_5 rfl (lv_at hl 1 rfl) ?_
  refine k_get X hW inG0 rfl 6 (by decide) fl_X0_37 rfl 0 rfl (v := .ref (a 5)) rfl dX0_takeOldest_6 ?_
  refine lv_iload_n hx hb dX0_takeOldest_9 rfl (lv_at hl 0 rfl) ?_
  refine lv_iconst (v := nI 1) hx hb dX0_takeOldest_10 (by decide +kernel) ?_
  refine k_iast X hW 3 rfl (j := (tn (q 6))) rfl (by omega) (by decide) dX0_takeOldest_11 (w' := [cO a (st2 u 4 (upd (u 4) (tn (q 6)) (nI 1))), cFl k a (st2 u 4 (upd (u 4) (tn (q 6)) (nI 1))), cCa k a (st2 u 4 (upd (u 4) (tn (q 6)) (nI 1))), cHo k a (st2 u 4 (upd (u 4) (tn (q 6)) (nI 1))), cTa k a (st2 u 4 (upd (u 4) (tn (q 6)) (nI 1))), qC b q]) rfl (fun H locs hW => ?_)
  refine lv_aload_n hx hb dX0_takeOldest_12 rfl (lv_at hl 1 rfl) ?_
  refine k_get X hW inG0 rfl 7 (by decide) fl_X0_40 rfl 0 rfl (v := .ref (a 6)) rfl dX0_takeOldest_13 ?_
  refine lv_iload_n hx hb dX0_takeOldest_16 rfl (lv_at hl 0 rfl) ?_
  refine lv_aload_n hx hb dX0_takeOldest_17 rfl (lv_at hl 1 rfl) ?_
  refine k_get X hW inG0 rfl 2 (by decide) fl_X0_24 rfl 0 rfl (v := .int (u 0 2)) rfl dX0_takeOldest_18 ?_
  refine k_iast X hW 4 rfl (j := (tn (q 6))) rfl (by omega) (by decide) dX0_takeOldest_21 (w' := [cO a (st2 (st2 u 4 (upd (u 4) (tn (q 6)) (nI 1))) 5 (upd (u 5) (tn (q 6)) (u 0 2))), cFl k a (st2 (st2 u 4 (upd (u 4) (tn (q 6)) (nI 1))) 5 (upd (u 5) (tn (q 6)) (u 0 2))), cCa k a (st2 (st2 u 4 (upd (u 4) (tn (q 6)) (nI 1))) 5 (upd (u 5) (tn (q 6)) (u 0 2))), cHo k a (st2 (st2 u 4 (upd (u 4) (tn (q 6)) (nI 1))) 5 (upd (u 5) (tn (q 6)) (u 0 2))), cTa k a (st2 (st2 u 4 (upd (u 4) (tn (q 6)) (nI 1))) 5 (upd (u 5) (tn (q 6)) (u 0 2))), qC b q]) rfl (fun H locs hW => ?_)
  refine lv_aload_n hx hb dX0_takeOldest_22 rfl (lv_at hl 2 rfl) ?_
  refine lv_aload_n hx hb dX0_takeOldest_23 rfl (lv_at hl 1 rfl) ?_
  refine k_get X hW inG0 rfl 2 (by decide) fl_X0_24 rfl 0 rfl (v := .int (u 0 2)) rfl dX0_takeOldest_24 ?_
  refine lv_aload_n hx hb dX0_takeOldest_27 rfl (lv_at hl 1 rfl) ?_
  refine k_get X hW inG0 rfl 5 (by decide) fl_X0_34 rfl 0 rfl (v := .ref (a 4)) rfl dX0_takeOldest_28 ?_
  refine lv_iload_n hx hb dX0_takeOldest_31 rfl (lv_at hl 0 rfl) ?_
  refine k_iald X hW 2 rfl (j := (tn (q 6))) (v := u 3 (tn (q 6))) rfl (by omega) (by decide) rfl dX0_takeOldest_32 ?_
  refine lv_isub hx hb dX0_takeOldest_33 ?_
  obtain ⟨z_1, hz_1⟩ : ∃ zq, m_X3_noteTaken_q q ((u 0 2) - (u 3 (tn (q 6)))) = zq := ⟨_, rfl⟩
  have hM_2 := (c_X3_noteTaken l D k b q ((u 0 2) - (u 3 (tn (q 6)))))
  rw [hz_1] at hM_2
  refine kNv (As := [.int ((u 0 2) - (u 3 (tn (q 6))))]) (rest := []) X hW hM_2 yw_X3_noteTaken lkn_X0_134 ⟨Nat.le_of_ble_eq_true rfl, Nat.le_of_ble_eq_true rfl⟩ (wr := [cO a (st2 (st2 u 4 (upd (u 4) (tn (q 6)) (nI 1))) 5 (upd (u 5) (tn (q 6)) (u 0 2))), cFl k a (st2 (st2 u 4 (upd (u 4) (tn (q 6)) (nI 1))) 5 (upd (u 5) (tn (q 6)) (u 0 2))), cCa k a (st2 (st2 u 4 (upd (u 4) (tn (q 6)) (nI 1))) 5 (upd (u 5) (tn (q 6)) (u 0 2))), cHo k a (st2 (st2 u 4 (upd (u 4) (tn (q 6)) (nI 1))) 5 (upd (u 5) (tn (q 6)) (u 0 2))), cTa k a (st2 (st2 u 4 (upd (u 4) (tn (q 6)) (nI 1))) 5 (upd (u 5) (tn (q 6)) (u 0 2)))]) (w_idx (n := 6) [0, 1, 2, 3, 4, 5] rfl (by decide) rfl) (w' := [cO a (st2 (st2 u 4 (upd (u 4) (tn (q 6)) (nI 1))) 5 (upd (u 5) (tn (q 6)) (u 0 2))), cFl k a (st2 (st2 u 4 (upd (u 4) (tn (q 6)) (nI 1))) 5 (upd (u 5) (tn (q 6)) (u 0 2))), cCa k a (st2 (st2 u 4 (upd (u 4) (tn (q 6)) (nI 1))) 5 (upd (u 5) (tn (q 6)) (u 0 2))), cHo k a (st2 (st2 u 4 (upd (u 4) (tn (q 6)) (nI 1))) 5 (upd (u 5) (tn (q 6)) (u 0 2))), cTa k a (st2 (st2 u 4 (upd (u 4) (tn (q 6)) (nI 1))) 5 (upd (u 5) (tn (q 6)) (u 0 2))), qC b z_1]) (w_idx (n := 6) [0, 1, 2, 3, 4, 5] rfl (by decide) rfl) (k_rcv X hW (ci := 3) (q0 := 5) rfl rfl) rfl hl.1 rfl (Nat.le_of_ble_eq_true rfl) ⟨Nat.zero_le _, Nat.zero_le _⟩ dX0_takeOldest_34 (fun H locs hW => ?_)
  refine lv_aload_n hx hb dX0_takeOldest_37 rfl (lv_at hl 2 rfl) ?_
  refine lv_bipush (v := (-6)) hx hb dX0_takeOldest_38 (by decide +kernel) ?_
  refine k_putN X hW inG3 rfl tyX3_ok nmX3 6 (by decide) fln_X0_82 rfl rfl 5 rfl rfl rfl (Nat.le_of_ble_eq_true rfl) dX0_takeOldest_40 (w' := [cO a (st2 (st2 u 4 (upd (u 4) (tn (q 6)) (nI 1))) 5 (upd (u 5) (tn (q 6)) (u 0 2))), cFl k a (st2 (st2 u 4 (upd (u 4) (tn (q 6)) (nI 1))) 5 (upd (u 5) (tn (q 6)) (u 0 2))), cCa k a (st2 (st2 u 4 (upd (u 4) (tn (q 6)) (nI 1))) 5 (upd (u 5) (tn (q 6)) (u 0 2))), cHo k a (st2 (st2 u 4 (upd (u 4) (tn (q 6)) (nI 1))) 5 (upd (u 5) (tn (q 6)) (u 0 2))), cTa k a (st2 (st2 u 4 (upd (u 4) (tn (q 6)) (nI 1))) 5 (upd (u 5) (tn (q 6)) (u 0 2))), qC b (upd z_1 6 (-6))]) rfl (fun H locs hW => ?_)
  refine lv_iload_n hx hb dX0_takeOldest_43 rfl (lv_at hl 0 rfl) ?_
  refine lv_iconst (v := nI 1) hx hb dX0_takeOldest_44 (by decide +kernel) ?_
  refine lv_iadd hx hb dX0_takeOldest_45 ?_
  refine k_top (y := nI (tn (q 6) + 1)) (nI_add _ _) ?_
  refine lv_istore (lv' := [(4, .int (nI (tn (q 6) + 1))), (3, .int (nI (tn (q 6)))), (0, .ref (a 0)), (1, .ref b), (2, .int num)]) hx hb dX0_takeOldest_46 hl (by decide) rfl (fun ls hl => ?_)
  have hl0 := hl
  have lp : ∀ (r i : Nat) (H : Heap) (locs : List Loc) (ls : Array Slot), i + r = cn u → KW D A s [cO a (st2 (st2 u 4 (upd (u 4) (tn (q 6)) (nI 1))) 5 (upd (u 5) (tn (q 6)) (u 0 2))), cFl k a (st2 (st2 u 4 (upd (u 4) (tn (q 6)) (nI 1))) 5 (upd (u 5) (tn (q 6)) (u 0 2))), cCa k a (st2 (st2 u 4 (upd (u 4) (tn (q 6)) (nI 1))) 5 (upd (u 5) (tn (q 6)) (u 0 2))), cHo k a (st2 (st2 u 4 (upd (u 4) (tn (q 6)) (nI 1))) 5 (upd (u 5) (tn (q 6)) (u 0 2))), cTa k a (st2 (st2 u 4 (upd (u 4) (tn (q 6)) (nI 1))) 5 (upd (u 5) (tn (q 6)) (u 0 2))), qC b (upd z_1 6 (-6))] H locs → lv_has ls 5 [(4, .int (nI i)), (3, .int (nI (tn (q 6)))), (0, .ref (a 0)), (1, .ref b), (2, .int num)] → m_X0_takeOldest_q u q num = upd z_1 6 (lp_srch (upd (u 4) (tn (q 6)) (nI 1)) (u 2) num r i) → W p l e (rmD 2) s m args below meth c H locs 0 0 Q (F0 m 48 ls []) := by
    intro r
    induction r with
    | zero =>
      intro i H locs ls hir hW hl hfin
      refine lv_iload hx hb dX0_takeOldest_48 (lv_at hl 0 rfl) ?_
      refine lv_aload_n hx hb dX0_takeOldest_50 rfl (lv_at hl 2 rfl) ?_
      refine k_get X hW inG0 rfl 3 (by decide) fl_X0_28 rfl 0 rfl (v := .int (u 0 3)) rfl dX0_takeOldest_51 ?_
      refine k_top (y := nI (cn u)) (hc.1) ?_
      refine lv_icmp_ge (tgt := 101) hx hb dX0_takeOldest_54 (by decide) (fun c_3 => ?_) (fun c_3 => ?_)
      · have c_3 : cn u ≤ i := (nI_leI (a := cn u) (b := i) (by omega) (by omega)).mp c_3
        exact hQ _ _ _ _ _ hW dX0_takeOldest_101 (by rw [hfin, lp_srch]; try rfl)
      · have c_3 : ¬ (cn u ≤ i) := fun h => c_3 ((nI_leI (a := cn u) (b := i) (by omega) (by omega)).mpr h)
        omega
    | succ r ih =>
      intro i H locs ls hir hW hl hfin
      refine lv_iload hx hb dX0_takeOldest_48 (lv_at hl 0 rfl) ?_
      refine lv_aload_n hx hb dX0_takeOldest_50 rfl (lv_at hl 2 rfl) ?_
      refine k_get X hW inG0 rfl 3 (by decide) fl_X0_28 rfl 0 rfl (v := .int (u 0 3)) rfl dX0_takeOldest_51 ?_
      refine k_top (y := nI (cn u)) (hc.1) ?_
      refine lv_icmp_ge (tgt := 101) hx hb dX0_takeOldest_54 (by decide) (fun c_4 => ?_) (fun c_4 => ?_)
      · have c_4 : cn u ≤ i := (nI_leI (a := cn u) (b := i) (by omega) (by omega)).mp c_4
        omega
      · have c_4 : ¬ (cn u ≤ i) := fun h => c_4 ((nI_leI (a := cn u) (b := i) (by omega) (by omega)).mpr h)
        refine lv_aload_n hx hb dX0_takeOldest_57 rfl (lv_at hl 3 rfl) ?_
        refine k_getN X hW inG3 rfl 6 (by decide) fln_X0_82 rfl 5 rfl (v := .int (-6)) rfl dX0_takeOldest_58 ?_
        refine lv_bipush (v := (-6)) hx hb dX0_takeOldest_61 (by decide +kernel) ?_
        refine lv_icmp_ne (tgt := 101) hx hb dX0_takeOldest_63 (by decide) (fun c => absurd (by decide +kernel) c) (fun _ => ?_)
        refine lv_aload_n hx hb dX0_takeOldest_66 rfl (lv_at hl 2 rfl) ?_
        refine k_get X hW inG0 rfl 6 (by decide) fl_X0_37 rfl 0 rfl (v := .ref (a 5)) rfl dX0_takeOldest_67 ?_
        refine lv_iload hx hb dX0_takeOldest_70 (lv_at hl 0 rfl) ?_
        refine k_iald X hW 3 rfl (j := i) (v := upd (u 4) (tn (q 6)) (nI 1) i) rfl (by omega) (by decide) rfl dX0_takeOldest_72 ?_
        refine lv_if_ne (tgt := 95) hx hb dX0_takeOldest_73 (by decide) (fun c_6 => ?_) (fun c_6 => ?_)
        · refine lv_iinc (v := nI (i + 1)) (lv' := [(4, .int (nI (i + 1))), (3, .int (nI (tn (q 6)))), (0, .ref (a 0)), (1, .ref b), (2, .int num)]) hx hb dX0_takeOldest_95 hl (k := 0) rfl (k_inc _) (by decide) rfl (fun ls hl => ?_)
          refine lv_goto (tgt := 48) hx hb dX0_takeOldest_98 (by decide) ?_
          exact ih (i + 1) _ _ _ (by omega) hW (lv_sub hl [0, 1, 2, 3, 4] rfl) (by rw [hfin, lp_srch, if_neg c_6])
        · refine lv_aload_n hx hb dX0_takeOldest_76 rfl (lv_at hl 2 rfl) ?_
          refine k_get X hW inG0 rfl 4 (by decide) fl_X0_31 rfl 0 rfl (v := .ref (a 3)) rfl dX0_takeOldest_77 ?_
          refine lv_iload hx hb dX0_takeOldest_80 (lv_at hl 0 rfl) ?_
          refine k_iald X hW 1 rfl (j := i) (v := u 2 i) rfl (by omega) (by decide) rfl dX0_takeOldest_82 ?_
          refine lv_iconst (v := nI 3) hx hb dX0_takeOldest_83 (by decide +kernel) ?_
          refine lv_irem hx hb dX0_takeOldest_84 (by decide +kernel) ?_
          refine lv_iload_n hx hb dX0_takeOldest_85 rfl (lv_at hl 4 rfl) ?_
          refine lv_icmp_ne (tgt := 95) hx hb dX0_takeOldest_86 (by decide) (fun c_7 => ?_) (fun c_7 => ?_)
          · refine lv_iinc (v := nI (i + 1)) (lv' := [(4, .int (nI (i + 1))), (3, .int (nI (tn (q 6)))), (0, .ref (a 0)), (1, .ref b), (2, .int num)]) hx hb dX0_takeOldest_95 hl (k := 0) rfl (k_inc _) (by decide) rfl (fun ls hl => ?_)
            refine lv_goto (tgt := 48) hx hb dX0_takeOldest_98 (by decide) ?_
            exact ih (i + 1) _ _ _ (by omega) hW (lv_sub hl [0, 1, 2, 3, 4] rfl) (by rw [hfin, lp_srch, if_pos c_6, if_neg c_7])
          · refine lv_aload_n hx hb dX0_takeOldest_89 rfl (lv_at hl 3 rfl) ?_
            refine lv_iload hx hb dX0_takeOldest_90 (lv_at hl 0 rfl) ?_
            refine k_putN X hW inG3 rfl tyX3_ok nmX3 6 (by decide) fln_X0_82 rfl rfl 5 rfl rfl rfl (Nat.le_of_ble_eq_true rfl) dX0_takeOldest_92 (w' := [cO a (st2 (st2 u 4 (upd (u 4) (tn (q 6)) (nI 1))) 5 (upd (u 5) (tn (q 6)) (u 0 2))), cFl k a (st2 (st2 u 4 (upd (u 4) (tn (q 6)) (nI 1))) 5 (upd (u 5) (tn (q 6)) (u 0 2))), cCa k a (st2 (st2 u 4 (upd (u 4) (tn (q 6)) (nI 1))) 5 (upd (u 5) (tn (q 6)) (u 0 2))), cHo k a (st2 (st2 u 4 (upd (u 4) (tn (q 6)) (nI 1))) 5 (upd (u 5) (tn (q 6)) (u 0 2))), cTa k a (st2 (st2 u 4 (upd (u 4) (tn (q 6)) (nI 1))) 5 (upd (u 5) (tn (q 6)) (u 0 2))), qC b (upd z_1 6 (nI i))]) rfl (fun H locs hW => ?_)
            refine lv_iinc (v := nI (i + 1)) (lv' := [(4, .int (nI (i + 1))), (3, .int (nI (tn (q 6)))), (0, .ref (a 0)), (1, .ref b), (2, .int num)]) hx hb dX0_takeOldest_95 hl (k := 0) rfl (k_inc _) (by decide) rfl (fun ls hl => ?_)
            refine lv_goto (tgt := 48) hx hb dX0_takeOldest_98 (by decide) ?_
            refine lv_iload hx hb dX0_takeOldest_48 (lv_at hl 0 rfl) ?_
            refine lv_aload_n hx hb dX0_takeOldest_50 rfl (lv_at hl 2 rfl) ?_
            refine k_get X hW inG0 rfl 3 (by decide) fl_X0_28 rfl 0 rfl (v := .int (u 0 3)) rfl dX0_takeOldest_51 ?_
            refine k_top (y := nI (cn u)) (hc.1) ?_
            refine lv_icmp_ge (tgt := 101) hx hb dX0_takeOldest_54 (by decide) (fun c_8 => ?_) (fun c_8 => ?_)
            · have c_8 : cn u ≤ i + 1 := (nI_leI (a := cn u) (b := i + 1) (by omega) (by omega)).mp c_8
              exact hQ _ _ _ _ _ hW dX0_takeOldest_101 (by rw [hfin, lp_srch, if_pos c_6, if_pos c_7]; try rfl)
            · have c_8 : ¬ (cn u ≤ i + 1) := fun h => c_8 ((nI_leI (a := cn u) (b := i + 1) (by omega) (by omega)).mpr h)
              refine lv_aload_n hx hb dX0_takeOldest_57 rfl (lv_at hl 3 rfl) ?_
              refine k_getN X hW inG3 rfl 6 (by decide) fln_X0_82 rfl 5 rfl (v := .int (nI i)) rfl dX0_takeOldest_58 ?_
              refine lv_bipush (v := (-6)) hx hb dX0_takeOldest_61 (by decide +kernel) ?_
              refine lv_icmp_ne (tgt := 101) hx hb dX0_takeOldest_63 (by decide) (fun _ => ?_) (fun c => absurd c (k_neg (by omega) (by decide +kernel)))
              exact hQ _ _ _ _ _ hW dX0_takeOldest_101 (by rw [hfin, lp_srch, if_pos c_6, if_pos c_7]; try rfl)
  exact lp (cn u - (tn (q 6) + 1)) (tn (q 6) + 1) _ _ _ (by omega) hW (lv_sub hl [0, 1, 2, 3, 4] rfl) (by subst hz_1; rfl)
