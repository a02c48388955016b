def m_X5_doCome_r (f : Nat → Int32) (fl : Nat) : Int32 := if (m_X5_ring_r f (fl % 3)) < f 0 then nI (tn (f 5)) else nI (tn (f 5))
def m_X5_doCome_f (f : Nat → Int32) (fl : Nat) : Nat → Int32 := if (m_X5_ring_r f (fl % 3)) < f 0 then (m_X5_more_f (upd (upd (upd (upd (upd f (40 + (4 * (tn (f 5)))) (nI fl)) (40 + (4 * (tn (f 5))) + 1) (f 4)) (40 + (4 * (tn (f 5))) + 2) (nI 0)) (40 + (4 * (tn (f 5))) + 3) (nI 0)) 5 (nI (tn (f 5) + 1))) (fl % 3) 6 (nI 0)) else (m_X5_more_f (upd (upd (upd (upd (upd f (40 + (4 * (tn (f 5)))) (nI fl)) (40 + (4 * (tn (f 5))) + 1) (f 4)) (40 + (4 * (tn (f 5))) + 2) (nI 2)) (40 + (4 * (tn (f 5))) + 3) (nI 0)) 5 (nI (tn (f 5) + 1))) (fl % 3) 6 (nI 1))
set_option maxHeartbeats 4000000 in
set_option maxRecDepth 100000 in
theorem c_X5_doCome (l : Launch) (D : va_G) (k : Nat → ClassId) (a : Nat → Nat) (z : Nat → Int32) (f : Nat → Int32) (kp : Nat → Int32) (hi : Nat → Int32) (sl : Nat → Int32) (sv : Nat → Int32) (tx : Nat → Int32) (td : Nat → Int32) (fl : Nat) (hf : WF f) (hfl : fl < 2 ^ 31) (hca : tn (f 5) < 400) : mI l yX5_doCome (wsY yX5_doCome cX5_doCome 6 (some .int)) 3 D k [.ref (a 0), .int (nI fl)] (refW k a z f kp hi sl sv tx td) (refW k a z (m_X5_doCome_f f fl) kp hi sl sv tx td) (m_X5_doCome_r f fl) := by
  refine mI_intro rfl (Nat.le_of_ble_eq_true rfl) (Or.inl rfl) ?_
  intro p e s m args below meth c A Q ls X hW hl hQ
  have hx := X.hx
  have hb := X.hb
  have hl : lv_has ls 6 [(0, .ref (a 0)), (1, .int (nI fl))] := hl
  have hq_1 := hf.1.2
  have hq_2 := hf.2.1.2
  have hq_3 := hf.2.2.1.2
  refine lv_aload_n hx hb dX5_doCome_0 rfl (lv_at hl 0 rfl) ?_
  refine k_get X hW inG5 rfl 0 (by decide) fl_X5_7 rfl 0 rfl (v := .ref (a 1)) rfl dX5_doCome_1 ?_
  refine lv_iconst (v := nI 5) hx hb dX5_doCome_4 (by decide +kernel) ?_
  refine k_iald X hW 1 rfl (j := 5) (v := f 5) rfl (by decide) (by decide) rfl dX5_doCome_5 ?_
  refine k_top (y := nI (tn (f 5))) (hf.1.1) ?_
  refine lv_istore_n (lv' := [(2, .int (nI (tn (f 5)))), (0, .ref (a 0)), (1, .int (nI fl))]) hx hb dX5_doCome_6 rfl hl (by decide) rfl (fun ls hl => ?_)
  refine lv_iload_n hx hb dX5_doCome_7 rfl (lv_at hl 2 rfl) ?_
  refine lv_iconst (v := nI 3) hx hb dX5_doCome_8 (by decide +kernel) ?_
  refine lv_irem hx hb dX5_doCome_9 (by decide +kernel) ?_
  refine k_top (y := nI (fl % 3)) (pk_rem (by omega) (by decide) (by decide)) ?_
  refine lv_istore_n (lv' := [(3, .int (nI (fl % 3))), (2, .int (nI (tn (f 5)))), (0, .ref (a 0)), (1, .int (nI fl))]) hx hb dX5_doCome_10 rfl hl (by decide) rfl (fun ls hl => ?_)
  refine lv_aload_n hx hb dX5_doCome_11 rfl (lv_at hl 2 rfl) ?_
  refine lv_iload_n hx hb dX5_doCome_12 rfl (lv_at hl 0 rfl) ?_
  obtain ⟨z_4, hz_4⟩ : ∃ zq, m_X5_ring_r f (fl % 3) = zq := ⟨_, rfl⟩
  have hM_5 := (c_X5_ring l D k a z f kp hi sl sv tx td (fl % 3) hf)
  rw [hz_4] at hM_5
  refine kVi (As := [.int (nI (fl % 3))]) (rest := []) X hW hM_5 yw_X5_ring lk_X5_56 ⟨Nat.le_of_ble_eq_true rfl, Nat.le_of_ble_eq_true rfl⟩ (wr := []) (List.Perm.refl _) (w' := refW k a z f kp hi sl sv tx td) (List.Perm.refl _) (k_rcv X hW (ci := 5) (q0 := 0) rfl rfl) rfl hl.1 rfl (Nat.le_of_ble_eq_true rfl) ⟨Nat.zero_le _, Nat.zero_le _⟩ dX5_doCome_13 (fun H locs hW => ?_)
  refine lv_aload_n hx hb dX5_doCome_16 rfl (lv_at hl 2 rfl) ?_
  refine k_get X hW inG5 rfl 0 (by decide) fl_X5_7 rfl 0 rfl (v := .ref (a 1)) rfl dX5_doCome_17 ?_
  refine lv_iconst (v := nI 0) hx hb dX5_doCome_20 (by decide +kernel) ?_
  refine k_iald X hW 1 rfl (j := 0) (v := f 0) rfl (by decide) (by decide) rfl dX5_doCome_21 ?_
  refine lv_icmp_lt (tgt := 29) hx hb dX5_doCome_22 (by decide) (fun c_6 => ?_) (fun c_6 => ?_)
  · refine lv_iconst (v := nI 0) hx hb dX5_doCome_29 (by decide +kernel) ?_
    refine lv_istore (lv' := [(4, .int (nI 0)), (3, .int (nI (fl % 3))), (2, .int (nI (tn (f 5)))), (0, .ref (a 0)), (1, .int (nI fl))]) hx hb dX5_doCome_30 hl (by decide) rfl (fun ls hl => ?_)
    refine lv_bipush (v := nI 40) hx hb dX5_doCome_32 (by decide +kernel) ?_
    refine lv_iconst (v := nI 4) hx hb dX5_doCome_34 (by decide +kernel) ?_
    refine lv_iload_n hx hb dX5_doCome_35 rfl (lv_at hl 2 rfl) ?_
    refine lv_imul hx hb dX5_doCome_36 ?_
    refine k_top (y := nI (4 * (tn (f 5)))) (pk_mul _ _) ?_
    refine lv_iadd hx hb dX5_doCome_37 ?_
    refine k_top (y := nI (40 + (4 * (tn (f 5))))) (nI_add _ _) ?_
    refine lv_istore (lv' := [(5, .int (nI (40 + (4 * (tn (f 5)))))), (4, .int (nI 0)), (3, .int (nI (fl % 3))), (2, .int (nI (tn (f 5)))), (0, .ref (a 0)), (1, .int (nI fl))]) hx hb dX5_doCome_38 hl (by decide) rfl (fun ls hl => ?_)
    refine lv_aload_n hx hb dX5_doCome_40 rfl (lv_at hl 4 rfl) ?_
    refine k_get X hW inG5 rfl 0 (by decide) fl_X5_7 rfl 0 rfl (v := .ref (a 1)) rfl dX5_doCome_41 ?_
    refine lv_iload hx hb dX5_doCome_44 (lv_at hl 0 rfl) ?_
    refine lv_iconst (v := nI 0) hx hb dX5_doCome_46 (by decide +kernel) ?_
    refine lv_iadd hx hb dX5_doCome_47 ?_
    refine k_top (y := nI (40 + (4 * (tn (f 5))))) (by rw [nI_add]; simp) ?_
    refine lv_iload_n hx hb dX5_doCome_48 rfl (lv_at hl 5 rfl) ?_
    refine k_iast X hW 1 rfl (j := (40 + (4 * (tn (f 5))))) rfl (by omega) (by decide) dX5_doCome_49 (w' := refW k a z (upd f (40 + (4 * (tn (f 5)))) (nI fl)) kp hi sl sv tx td) rfl (fun H locs hW => ?_)
    refine lv_aload_n hx hb dX5_doCome_50 rfl (lv_at hl 4 rfl) ?_
    refine k_get X hW inG5 rfl 0 (by decide) fl_X5_7 rfl 0 rfl (v := .ref (a 1)) rfl dX5_doCome_51 ?_
    refine lv_iload hx hb dX5_doCome_54 (lv_at hl 0 rfl) ?_
    refine lv_iconst (v := nI 1) hx hb dX5_doCome_56 (by decide +kernel) ?_
    refine lv_iadd hx hb dX5_doCome_57 ?_
    refine k_top (y := nI (40 + (4 * (tn (f 5))) + 1)) (nI_add _ _) ?_
    refine lv_aload_n hx hb dX5_doCome_58 rfl (lv_at hl 4 rfl) ?_
    refine k_get X hW inG5 rfl 0 (by decide) fl_X5_7 rfl 0 rfl (v := .ref (a 1)) rfl dX5_doCome_59 ?_
    refine lv_iconst (v := nI 4) hx hb dX5_doCome_62 (by decide +kernel) ?_
    refine k_iald X hW 1 rfl (j := 4) (v := f 4) rfl (by decide) (by decide) ((pk_un (k := (40 + (4 * (tn (f 5))))) (j := 4) (by omega)).trans <| rfl) dX5_doCome_63 ?_
    refine k_iast X hW 1 rfl (j := (40 + (4 * (tn (f 5))) + 1)) rfl (by omega) (by decide) dX5_doCome_64 (w' := refW k a z (upd (upd f (40 + (4 * (tn (f 5)))) (nI fl)) (40 + (4 * (tn (f 5))) + 1) (f 4)) kp hi sl sv tx td) rfl (fun H locs hW => ?_)
    refine lv_aload_n hx hb dX5_doCome_65 rfl (lv_at hl 4 rfl) ?_
    refine k_get X hW inG5 rfl 0 (by decide) fl_X5_7 rfl 0 rfl (v := .ref (a 1)) rfl dX5_doCome_66 ?_
    refine lv_iload hx hb dX5_doCome_69 (lv_at hl 0 rfl) ?_
    refine lv_iconst (v := nI 2) hx hb dX5_doCome_71 (by decide +kernel) ?_
    refine lv_iadd hx hb dX5_doCome_72 ?_
    refine k_top (y := nI (40 + (4 * (tn (f 5))) + 2)) (nI_add _ _) ?_
    refine lv_iload hx hb dX5_doCome_73 (lv_at hl 1 rfl) ?_
    refine lv_if_eq (tgt := 82) hx hb dX5_doCome_75 (by decide) (fun _ => ?_) (fun c => absurd (by decide +kernel) c)
    refine lv_iconst (v := nI 0) hx hb dX5_doCome_82 (by decide +kernel) ?_
    refine k_iast X hW 1 rfl (j := (40 + (4 * (tn (f 5))) + 2)) rfl (by omega) (by decide) dX5_doCome_83 (w' := refW k a z (upd (upd (upd f (40 + (4 * (tn (f 5)))) (nI fl)) (40 + (4 * (tn (f 5))) + 1) (f 4)) (40 + (4 * (tn (f 5))) + 2) (nI 0)) kp hi sl sv tx td) rfl (fun H locs hW => ?_)
    refine lv_aload_n hx hb dX5_doCome_84 rfl (lv_at hl 4 rfl) ?_
    refine k_get X hW inG5 rfl 0 (by decide) fl_X5_7 rfl 0 rfl (v := .ref (a 1)) rfl dX5_doCome_85 ?_
    refine lv_iload hx hb dX5_doCome_88 (lv_at hl 0 rfl) ?_
    refine lv_iconst (v := nI 3) hx hb dX5_doCome_90 (by decide +kernel) ?_
    refine lv_iadd hx hb dX5_doCome_91 ?_
    refine k_top (y := nI (40 + (4 * (tn (f 5))) + 3)) (nI_add _ _) ?_
    refine lv_iconst (v := nI 0) hx hb dX5_doCome_92 (by decide +kernel) ?_
    refine k_iast X hW 1 rfl (j := (40 + (4 * (tn (f 5))) + 3)) rfl (by omega) (by decide) dX5_doCome_93 (w' := refW k a z (upd (upd (upd (upd f (40 + (4 * (tn (f 5)))) (nI fl)) (40 + (4 * (tn (f 5))) + 1) (f 4)) (40 + (4 * (tn (f 5))) + 2) (nI 0)) (40 + (4 * (tn (f 5))) + 3) (nI 0)) kp hi sl sv tx td) rfl (fun H locs hW => ?_)
    refine lv_aload_n hx hb dX5_doCome_94 rfl (lv_at hl 4 rfl) ?_
    refine k_get X hW inG5 rfl 0 (by decide) fl_X5_7 rfl 0 rfl (v := .ref (a 1)) rfl dX5_doCome_95 ?_
    refine lv_iconst (v := nI 5) hx hb dX5_doCome_98 (by decide +kernel) ?_
    refine lv_dup2_11 hx hb dX5_doCome_99 rfl rfl ?_
    refine k_iald X hW 1 rfl (j := 5) (v := f 5) rfl (by decide) (by decide) ((pk_un (k := (40 + (4 * (tn (f 5))) + 3)) (j := 5) (by omega)).trans <| (pk_un (k := (40 + (4 * (tn (f 5))) + 2)) (j := 5) (by omega)).trans <| (pk_un (k := (40 + (4 * (tn (f 5))) + 1)) (j := 5) (by omega)).trans <| (pk_un (k := (40 + (4 * (tn (f 5))))) (j := 5) (by omega)).trans <| rfl) dX5_doCome_100 ?_
    refine k_top (y := nI (tn (f 5))) (hf.1.1) ?_
    refine lv_iconst (v := nI 1) hx hb dX5_doCome_101 (by decide +kernel) ?_
    refine lv_iadd hx hb dX5_doCome_102 ?_
    refine k_top (y := nI (tn (f 5) + 1)) (nI_add _ _) ?_
    refine k_iast X hW 1 rfl (j := 5) rfl (by decide) (by decide) dX5_doCome_103 (w' := refW k a z (upd (upd (upd (upd (upd f (40 + (4 * (tn (f 5)))) (nI fl)) (40 + (4 * (tn (f 5))) + 1) (f 4)) (40 + (4 * (tn (f 5))) + 2) (nI 0)) (40 + (4 * (tn (f 5))) + 3) (nI 0)) 5 (nI (tn (f 5) + 1))) kp hi sl sv tx td) rfl (fun H locs hW => ?_)
    refine lv_aload_n hx hb dX5_doCome_104 rfl (lv_at hl 4 rfl) ?_
    refine lv_iload_n hx hb dX5_doCome_105 rfl (lv_at hl 2 rfl) ?_
    refine lv_bipush (v := nI 6) hx hb dX5_doCome_106 (by decide +kernel) ?_
    refine lv_iload hx hb dX5_doCome_108 (lv_at hl 1 rfl) ?_
    refine lv_if_eq (tgt := 117) hx hb dX5_doCome_110 (by decide) (fun _ => ?_) (fun c => absurd (by decide +kernel) c)
    refine lv_iconst (v := nI 0) hx hb dX5_doCome_117 (by decide +kernel) ?_
    obtain ⟨z_9, hz_9⟩ : ∃ zq, m_X5_more_f (upd (upd (upd (upd (upd f (40 + (4 * (tn (f 5)))) (nI fl)) (40 + (4 * (tn (f 5))) + 1) (f 4)) (40 + (4 * (tn (f 5))) + 2) (nI 0)) (40 + (4 * (tn (f 5))) + 3) (nI 0)) 5 (nI (tn (f 5) + 1))) (fl % 3) 6 (nI 0) = zq := ⟨_, rfl⟩
    have hM_10 := (c_X5_more l D k a z (upd (upd (upd (upd (upd f (40 + (4 * (tn (f 5)))) (nI fl)) (40 + (4 * (tn (f 5))) + 1) (f 4)) (40 + (4 * (tn (f 5))) + 2) (nI 0)) (40 + (4 * (tn (f 5))) + 3) (nI 0)) 5 (nI (tn (f 5) + 1))) kp hi sl sv tx td (fl % 3) 6 (nI 0) (by first | decide | omega) (by first | decide | omega))
    rw [hz_9] at hM_10
    refine kVv (As := [.int (nI (fl % 3)), .int (nI 6), .int (nI 0)]) (rest := []) X hW hM_10 yw_X5_more lk_X5_60 ⟨Nat.le_of_ble_eq_true rfl, Nat.le_of_ble_eq_true rfl⟩ (wr := []) (List.Perm.refl _) (w' := refW k a z z_9 kp hi sl sv tx td) (List.Perm.refl _) (k_rcv X hW (ci := 5) (q0 := 0) rfl rfl) rfl hl.1 rfl (Nat.le_of_ble_eq_true rfl) ⟨Nat.zero_le _, Nat.zero_le _⟩ dX5_doCome_118 (fun H locs hW => ?_)
    refine lv_iload_n hx hb dX5_doCome_121 rfl (lv_at hl 3 rfl) ?_
    exact hQ _ _ _ _ _ _ hW dX5_doCome_122 (by subst hz_9; subst hz_4; rw [m_X5_doCome_r, if_pos c_6]) (by subst hz_9; subst hz_4; rw [m_X5_doCome_f, if_pos c_6])
  · refine lv_iconst (v := nI 1) hx hb dX5_doCome_25 (by decide +kernel) ?_
    refine lv_goto (tgt := 30) hx hb dX5_doCome_26 (by decide) ?_
    refine lv_istore (lv' := [(4, .int (nI 1)), (3, .int (nI (fl % 3))), (2, .int (nI (tn (f 5)))), (0, .ref (a 0)), (1, .int (nI fl))]) hx hb dX5_doCome_30 hl (by decide) rfl (fun ls hl => ?_)
    refine lv_bipush (v := nI 40) hx hb dX5_doCome_32 (by decide +kernel) ?_
    refine lv_iconst (v := nI 4) hx hb dX5_doCome_34 (by decide +kernel) ?_
    refine lv_iload_n hx hb dX5_doCome_35 rfl (lv_at hl 2 rfl) ?_
    refine lv_imul hx hb dX5_doCome_36 ?_
    refine k_top (y := nI (4 * (tn (f 5)))) (pk_mul _ _) ?_
    refine lv_iadd hx hb dX5_doCome_37 ?_
    refine k_top (y := nI (40 + (4 * (tn (f 5))))) (nI_add _ _) ?_
    refine lv_istore (lv' := [(5, .int (nI (40 + (4 * (tn (f 5)))))), (4, .int (nI 1)), (3, .int (nI (fl % 3))), (2, .int (nI (tn (f 5)))), (0, .ref (a 0)), (1, .int (nI fl))]) hx hb dX5_doCome_38 hl (by decide) rfl (fun ls hl => ?_)
    refine lv_aload_n hx hb dX5_doCome_40 rfl (lv_at hl 4 rfl) ?_
    refine k_get X hW inG5 rfl 0 (by decide) fl_X5_7 rfl 0 rfl (v := .ref (a 1)) rfl dX5_doCome_41 ?_
    refine lv_iload hx hb dX5_doCome_44 (lv_at hl 0 rfl) ?_
    refine lv_iconst (v := nI 0) hx hb dX5_doCome_46 (by decide +kernel) ?_
    refine lv_iadd hx hb dX5_doCome_47 ?_
    refine k_top (y := nI (40 + (4 * (tn (f 5))))) (by rw [nI_add]; simp) ?_
    refine lv_iload_n hx hb dX5_doCome_48 rfl (lv_at hl 5 rfl) ?_
    refine k_iast X hW 1 rfl (j := (40 + (4 * (tn (f 5))))) rfl (by omega) (by decide) dX5_doCome_49 (w' := refW k a z (upd f (40 + (4 * (tn (f 5)))) (nI fl)) kp hi sl sv tx td) rfl (fun H locs hW => ?_)
    refine lv_aload_n hx hb dX5_doCome_50 rfl (lv_at hl 4 rfl) ?_
    refine k_get X hW inG5 rfl 0 (by decide) fl_X5_7 rfl 0 rfl (v := .ref (a 1)) rfl dX5_doCome_51 ?_
    refine lv_iload hx hb dX5_doCome_54 (lv_at hl 0 rfl) ?_
    refine lv_iconst (v := nI 1) hx hb dX5_doCome_56 (by decide +kernel) ?_
    refine lv_iadd hx hb dX5_doCome_57 ?_
    refine k_top (y := nI (40 + (4 * (tn (f 5))) + 1)) (nI_add _ _) ?_
    refine lv_aload_n hx hb dX5_doCome_58 rfl (lv_at hl 4 rfl) ?_
    refine k_get X hW inG5 rfl 0 (by decide) fl_X5_7 rfl 0 rfl (v := .ref (a 1)) rfl dX5_doCome_59 ?_
    refine lv_iconst (v := nI 4) hx hb dX5_doCome_62 (by decide +kernel) ?_
    refine k_iald X hW 1 rfl (j := 4) (v := f 4) rfl (by decide) (by decide) ((pk_un (k := (40 + (4 * (tn (f 5))))) (j := 4) (by omega)).trans <| rfl) dX5_doCome_63 ?_
    refine k_iast X hW 1 rfl (j := (40 + (4 * (tn (f 5))) + 1)) rfl (by omega) (by decide) dX5_doCome_64 (w' := refW k a z (upd (upd f (40 + (4 * (tn (f 5)))) (nI fl)) (40 + (4 * (tn (f 5))) + 1) (f 4)) kp hi sl sv tx td) rfl (fun H locs hW => ?_)
    refine lv_aload_n hx hb dX5_doCome_65 rfl (lv_at hl 4 rfl) ?_
    refine k_get X hW inG5 rfl 0 (by decide) fl_X5_7 rfl 0 rfl (v := .ref (a 1)) rfl dX5_doCome_66 ?_
    refine lv_iload hx hb dX5_doCome_69 (lv_at hl 0 rfl) ?_
    refine lv_iconst (v := nI 2) hx hb dX5_doCome_71 (by decide +kernel) ?_
    refine lv_iadd hx hb dX5_doCome_72 ?_
    refine k_top (y := nI (40 + (4 * (tn (f 5))) + 2)) (nI_add _ _) ?_
    refine lv_iload hx hb dX5_doCome_73 (lv_at hl 1 rfl) ?_
    refine lv_if_eq (tgt := 82) hx hb dX5_doCome_75 (by decide) (fun c => absurd c (by decide +kernel)) (fun _ => ?_)
    refine lv_iconst (v := nI 2) hx hb dX5_doCome_78 (by decide +kernel) ?_
    refine lv_goto (tgt := 83) hx hb dX5_doCome_79 (by decide) ?_
    refine k_iast X hW 1 rfl (j := (40 + (4 * (tn (f 5))) + 2)) rfl (by omega) (by decide) dX5_doCome_83 (w' := refW k a z (upd (upd (upd f (40 + (4 * (tn (f 5)))) (nI fl)) (40 + (4 * (tn (f 5))) + 1) (f 4)) (40 + (4 * (tn (f 5))) + 2) (nI 2)) kp hi sl sv tx td) rfl (fun H locs hW => ?_)
    refine lv_aload_n hx hb dX5_doCome_84 rfl (lv_at hl 4 rfl) ?_
    refine k_get X hW inG5 rfl 0 (by decide) fl_X5_7 rfl 0 rfl (v := .ref (a 1)) rfl dX5_doCome_85 ?_
    refine lv_iload hx hb dX5_doCome_88 (lv_at hl 0 rfl) ?_
    refine lv_iconst (v := nI 3) hx hb dX5_doCome_90 (by decide +kernel) ?_
    refine lv_iadd hx hb dX5_doCome_91 ?_
    refine k_top (y := nI (40 + (4 * (tn (f 5))) + 3)) (nI_add _ _) ?_
    refine lv_iconst (v := nI 0) hx hb dX5_doCome_92 (by decide +kernel) ?_
    refine k_iast X hW 1 rfl (j := (40 + (4 * (tn (f 5))) + 3)) rfl (by omega) (by decide) dX5_doCome_93 (w' := refW k a z (upd (upd (upd (upd f (40 + (4 * (tn (f 5)))) (nI fl)) (40 + (4 * (tn (f 5))) + 1) (f 4)) (40 + (4 * (tn (f 5))) + 2) (nI 2)) (40 + (4 * (tn (f 5))) + 3) (nI 0)) kp hi sl sv tx td) rfl (fun H locs hW => ?_)
    refine lv_aload_n hx hb dX5_doCome_94 rfl (lv_at hl 4 rfl) ?_
    refine k_get X hW inG5 rfl 0 (by decide) fl_X5_7 rfl 0 rfl (v := .ref (a 1)) rfl dX5_doCome_95 ?_
    refine lv_iconst (v := nI 5) hx hb dX5_doCome_98 (by decide +kernel) ?_
    refine lv_dup2_11 hx hb dX5_doCome_99 rfl rfl ?_
    refine k_iald X hW 1 rfl (j := 5) (v := f 5) rfl (by decide) (by decide) ((pk_un (k := (40 + (4 * (tn (f 5))) + 3)) (j := 5) (by omega)).trans <| (pk_un (k := (40 + (4 * (tn (f 5))) + 2)) (j := 5) (by omega)).trans <| (pk_un (k := (40 + (4 * (tn (f 5))) + 1)) (j := 5) (by omega)).trans <| (pk_un (k := (40 + (4 * (tn (f 5))))) (j := 5) (by omega)).trans <| rfl) dX5_doCome_100 ?_
    refine k_top (y := nI (tn (f 5))) (hf.1.1) ?_
    refine lv_iconst (v := nI 1) hx hb dX5_doCome_101 (by decide +kernel) ?_
    refine lv_iadd hx hb dX5_doCome_102 ?_
    refine k_top (y := nI (tn (f 5) + 1)) (nI_add _ _) ?_
    refine k_iast X hW 1 rfl (j := 5) rfl (by decide) (by decide) dX5_doCome_103 (w' := refW k a z (upd (upd (upd (upd (upd f (40 + (4 * (tn (f 5)))) (nI fl)) (40 + (4 * (tn (f 5))) + 1) (f 4)) (40 + (4 * (tn (f 5))) + 2) (nI 2)) (40 + (4 * (tn (f 5))) + 3) (nI 0)) 5 (nI (tn (f 5) + 1))) kp hi sl sv tx td) rfl (fun H locs hW => ?_)
    refine lv_aload_n hx hb dX5_doCome_104 rfl (lv_at hl 4 rfl) ?_
    refine lv_iload_n hx hb dX5_doCome_105 rfl (lv_at hl 2 rfl) ?_
    refine lv_bipush (v := nI 6) hx hb dX5_doCome_106 (by decide +kernel) ?_
    refine lv_iload hx hb dX5_doCome_108 (lv_at hl 1 rfl) ?_
    refine lv_if_eq (tgt := 117) hx hb dX5_doCome_110 (by decide) (fun c => absurd c (by decide +kernel)) (fun _ => ?_)
    refine lv_iconst (v := nI 1) hx hb dX5_doCome_113 (by decide +kernel) ?_
    refine lv_goto (tgt := 118) hx hb dX5_doCome_114 (by decide) ?_
    obtain ⟨z_13, hz_13⟩ : ∃ zq, m_X5_more_f (upd (upd (upd (upd (upd f (40 + (4 * (tn (f 5)))) (nI fl)) (40 + (4 * (tn (f 5))) + 1) (f 4)) (40 + (4 * (tn (f 5))) + 2) (nI 2)) (40 + (4 * (tn (f 5))) + 3) (nI 0)) 5 (nI (tn (f 5) + 1))) (fl % 3) 6 (nI 1) = zq := ⟨_, rfl⟩
    have hM_14 := (c_X5_more l D k a z (upd (upd (upd (upd (upd f (40 + (4 * (tn (f 5)))) (nI fl)) (40 + (4 * (tn (f 5))) + 1) (f 4)) (40 + (4 * (tn (f 5))) + 2) (nI 2)) (40 + (4 * (tn (f 5))) + 3) (nI 0)) 5 (nI (tn (f 5) + 1))) kp hi sl sv tx td (fl % 3) 6 (nI 1) (by first | decide | omega) (by first | decide | omega))
    rw [hz_13] at hM_14
    refine kVv (As := [.int (nI (fl % 3)), .int (nI 6), .int (nI 1)]) (rest := []) X hW hM_14 yw_X5_more lk_X5_60 ⟨Nat.le_of_ble_eq_true rfl, Nat.le_of_ble_eq_true rfl⟩ (wr := []) (List.Perm.refl _) (w' := refW k a z z_13 kp hi sl sv tx td) (List.Perm.refl _) (k_rcv X hW (ci := 5) (q0 := 0) rfl rfl) rfl hl.1 rfl (Nat.le_of_ble_eq_true rfl) ⟨Nat.zero_le _, Nat.zero_le _⟩ dX5_doCome_118 (fun H locs hW => ?_)
    refine lv_iload_n hx hb dX5_doCome_121 rfl (lv_at hl 3 rfl) ?_
    exact hQ _ _ _ _ _ _ hW dX5_doCome_122 (by subst hz_13; subst hz_4; rw [m_X5_doCome_r, if_neg c_6]) (by subst hz_13; subst hz_4; rw [m_X5_doCome_f, if_neg c_6])
theorem WF_5 {f : Nat → Int32} {n : Nat} (h : WF f) (hn : n ≤ 400) : WF (upd f 5 (nI n)) := by
  have e : ∀ j, j ≠ 5 → upd f 5 (nI n) j = f j := fun j hj => pk_un hj
  have e5 : upd f 5 (nI n) 5 = nI n := pk_us
  unfold WF
  rw [e5, e 6 (by decide), e 1 (by decide), tn_of rfl (by omega)]
  refine ⟨⟨rfl, hn⟩, h.2.1, h.2.2.1, fun j hj => ?_⟩
  rw [e (7 + j) (by omega)]
  exact h.2.2.2 j hj
theorem WF_doCome {f : Nat → Int32} {fl : Nat} (h : WF f) (hca : tn (f 5) < 400) : WF (m_X5_doCome_f f fl) := by
  rw [m_X5_doCome_f]
  split
  · exact WF_more _ _ _ (WF_5 (WF_ge (WF_ge (WF_ge (WF_ge h (by omega)) (by omega)) (by omega)) (by omega)) (by omega))
  · exact WF_more _ _ _ (WF_5 (WF_ge (WF_ge (WF_ge (WF_ge h (by omega)) (by omega)) (by omega)) (by omega)) (by omega))
def m_X5_doCall_f (f : Nat → Int32) (q : Nat) : Nat → Int32 := (m_X5_lays_f (m_X5_more_f (upd (upd f (7 + (tn (f 6))) (nI q)) 6 (nI (tn (f 6) + 1))) q 4 (nI 1)) q 9 (nI 0))
set_option maxHeartbeats 4000000 in
set_option maxRecDepth 100000 in
theorem c_X5_doCall (l : Launch) (D : va_G) (k : Nat → ClassId) (a : Nat → Nat) (z : Nat → Int32) (f : Nat → Int32) (kp : Nat → Int32) (hi : Nat → Int32) (sl : Nat → Int32) (sv : Nat → Int32) (tx : Nat → Int32) (td : Nat → Int32) (q : Nat) (hf : WF f) (hq : q < 3) : mV l yX5_doCall (wsY yX5_doCall cX5_doCall 2 none) 1 D k [.ref (a 0), .int (nI q)] (refW k a z f kp hi sl sv tx td) (refW k a z (m_X5_doCall_f f q) kp hi sl sv tx td) := by
  refine mV_intro rfl (Nat.le_of_ble_eq_true rfl) ?_
  intro p e s m args below meth c A Q ls X hW hl hQ
  have hx := X.hx
  have hb := X.hb
  have hl : lv_has ls 2 [(0, .ref (a 0)), (1, .int (nI q))] := hl
  have hq_1 := hf.1.2
  have hq_2 := hf.2.1.2
  have hq_3 := hf.2.2.1.2
  refine lv_aload_n hx hb dX5_doCall_0 rfl (lv_at hl 0 rfl) ?_
  refine k_get X hW inG5 rfl 0 (by decide) fl_X5_7 rfl 0 rfl (v := .ref (a 1)) rfl dX5_doCall_1 ?_
  refine lv_bipush (v := nI 7) hx hb dX5_doCall_4 (by decide +kernel) ?_
  refine lv_aload_n hx hb dX5_doCall_6 rfl (lv_at hl 0 rfl) ?_
  refine k_get X hW inG5 rfl 0 (by decide) fl_X5_7 rfl 0 rfl (v := .ref (a 1)) rfl dX5_doCall_7 ?_
  refine lv_bipush (v := nI 6) hx hb dX5_doCall_10 (by decide +kernel) ?_
  refine k_iald X hW 1 rfl (j := 6) (v := f 6) rfl (by decide) (by decide) rfl dX5_doCall_12 ?_
  refine k_top (y := nI (tn (f 6))) (hf.2.1.1) ?_
  refine lv_iadd hx hb dX5_doCall_13 ?_
  refine k_top (y := nI (7 + (tn (f 6)))) (nI_add _ _) ?_
  refine lv_iload_n hx hb dX5_doCall_14 rfl (lv_at hl 1 rfl) ?_
  refine k_iast X hW 1 rfl (j := (7 + (tn (f 6)))) rfl (by omega) (by decide) dX5_doCall_15 (w' := refW k a z (upd f (7 + (tn (f 6))) (nI q)) kp hi sl sv tx td) rfl (fun H locs hW => ?_)
  refine lv_aload_n hx hb dX5_doCall_16 rfl (lv_at hl 0 rfl) ?_
  refine k_get X hW inG5 rfl 0 (by decide) fl_X5_7 rfl 0 rfl (v := .ref (a 1)) rfl dX5_doCall_17 ?_
  refine lv_bipush (v := nI 6) hx hb dX5_doCall_20 (by decide +kernel) ?_
  refine lv_dup2_11 hx hb dX5_doCall_22 rfl rfl ?_
  refine k_iald X hW 1 rfl (j := 6) (v := f 6) rfl (by decide) (by decide) ((pk_un (k := (7 + (tn (f 6)))) (j := 6) (by omega)).trans <| rfl) dX5_doCall_23 ?_
  refine k_top (y := nI (tn (f 6))) (hf.2.1.1) ?_
  refine lv_iconst (v := nI 1) hx hb dX5_doCall_24 (by decide +kernel) ?_
  refine lv_iadd hx hb dX5_doCall_25 ?_
  refine k_top (y := nI (tn (f 6) + 1)) (nI_add _ _) ?_
  refine k_iast X hW 1 rfl (j := 6) rfl (by decide) (by decide) dX5_doCall_26 (w' := refW k a z (upd (upd f (7 + (tn (f 6))) (nI q)) 6 (nI (tn (f 6) + 1))) kp hi sl sv tx td) rfl (fun H locs hW => ?_)
  refine lv_aload_n hx hb dX5_doCall_27 rfl (lv_at hl 0 rfl) ?_
  refine lv_iload_n hx hb dX5_doCall_28 rfl (lv_at hl 1 rfl) ?_
  refine lv_iconst (v := nI 4) hx hb dX5_doCall_29 (by decide +kernel) ?_
  refine lv_iconst (v := nI 1) hx hb dX5_doCall_30 (by decide +kernel) ?_
  obtain ⟨z_4, hz_4⟩ : ∃ zq, m_X5_more_f (upd (upd f (7 + (tn (f 6))) (nI q)) 6 (nI (tn (f 6) + 1))) q 4 (nI 1) = zq := ⟨_, rfl⟩
  have hM_5 := (c_X5_more l D k a z (upd (upd f (7 + (tn (f 6))) (nI q)) 6 (nI (tn (f 6) + 1))) kp hi sl sv tx td q 4 (nI 1) (by first | decide | omega) (by first | decide | omega))
  rw [hz_4] at hM_5
  refine kVv (As := [.int (nI q), .int (nI 4), .int (nI 1)]) (rest := []) X hW hM_5 yw_X5_more lk_X5_60 ⟨Nat.le_of_ble_eq_true rfl, Nat.le_of_ble_eq_true rfl⟩ (wr := []) (List.Perm.refl _) (w' := refW k a z z_4 kp hi sl sv tx td) (List.Perm.refl _) (k_rcv X hW (ci := 5) (q0 := 0) rfl rfl) rfl hl.1 rfl (Nat.le_of_ble_eq_true rfl) ⟨Nat.zero_le _, Nat.zero_le _⟩ dX5_doCall_31 (fun H locs hW => ?_)
  refine lv_aload_n hx hb dX5_doCall_34 rfl (lv_at hl 0 rfl) ?_
  refine lv_iload_n hx hb dX5_doCall_35 rfl (lv_at hl 1 rfl) ?_
  refine lv_bipush (v := nI 9) hx hb dX5_doCall_36 (by decide +kernel) ?_
  refine lv_iconst (v := nI 0) hx hb dX5_doCall_38 (by decide +kernel) ?_
  obtain ⟨z_6, hz_6⟩ : ∃ zq, m_X5_lays_f z_4 q 9 (nI 0) = zq := ⟨_, rfl⟩
  have hM_7 := (c_X5_lays l D k a z z_4 kp hi sl sv tx td q 9 (nI 0) (by first | decide | omega) (by first | decide | omega))
  rw [hz_6] at hM_7
  refine kVv (As := [.int (nI q), .int (nI 9), .int (nI 0)]) (rest := []) X hW hM_7 yw_X5_lays lk_X5_31 ⟨Nat.le_of_ble_eq_true rfl, Nat.le_of_ble_eq_true rfl⟩ (wr := []) (List.Perm.refl _) (w' := refW k a z z_6 kp hi sl sv tx td) (List.Perm.refl _) (k_rcv X hW (ci := 5) (q0 := 0) rfl rfl) rfl hl.1 rfl (Nat.le_of_ble_eq_true rfl) ⟨Nat.zero_le _, Nat.zero_le _⟩ dX5_doCall_39 (fun H locs hW => ?_)
  exact hQ _ _ _ _ _ hW dX5_doCall_42 (by subst hz_6; subst hz_4; rw [m_X5_doCall_f])
theorem WF_doCall {f : Nat → Int32} {q : Nat} (h : WF f) (hq : q < 3) (hL : tn (f 6) < 3) : WF (m_X5_doCall_f f q) := by
  rw [m_X5_doCall_f]
  refine WF_lays _ _ _ (WF_more _ _ _ ?_)
  obtain ⟨h1, h2, h3, h4⟩ := h
  have e5 : upd (upd f (7 + tn (f 6)) (nI q)) 6 (nI (tn (f 6) + 1)) 5 = f 5 := (pk_un (by decide)).trans (pk_un (by omega))
  have e1 : upd (upd f (7 + tn (f 6)) (nI q)) 6 (nI (tn (f 6) + 1)) 1 = f 1 := (pk_un (by decide)).trans (pk_un (by omega))
  have e6 : upd (upd f (7 + tn (f 6)) (nI q)) 6 (nI (tn (f 6) + 1)) 6 = nI (tn (f 6) + 1) := pk_us
  unfold WF
  rw [e5, e1, e6, tn_of rfl (by omega)]
  refine ⟨h1, ⟨rfl, by omega⟩, h3, fun j hj => ?_⟩
  by_cases hj2 : j = tn (f 6)
  · subst hj2
    have e : upd (upd f (7 + tn (f 6)) (nI q)) 6 (nI (tn (f 6) + 1)) (7 + tn (f 6)) = nI q := (pk_un (by omega)).trans pk_us
    rw [e, tn_of rfl (by omega)]
    exact ⟨rfl, hq⟩
  · have e : upd (upd f (7 + tn (f 6)) (nI q)) 6 (nI (tn (f 6) + 1)) (7 + j) = f (7 + j) := (pk_un (by omega)).trans (pk_un (by omega))
    rw [e]
    exact h4 j hj
def AG (f g : Nat → Int32) : Prop := ∀ j, j < 10 → g j = f j
theorem AG.rf (f : Nat → Int32) : AG f f := fun _ _ => rfl
theorem AG.tr {f g h : Nat → Int32} (a : AG f g) (b : AG g h) : AG f h := fun j hj => (b j hj).trans (a j hj)
theorem AG_u {f g : Nat → Int32} {i : Nat} {x : Int32} (a : AG f g) (hi : 10 ≤ i) : AG f (upd g i x) := fun j hj => (pk_un (by omega)).trans (a j hj)
theorem AG_lays {f g : Nat → Int32} {q w : Nat} {v : Int32} (a : AG f g) : AG f (m_X5_lays_f g q w v) := AG_u a (by omega)
theorem AG_more {f g : Nat → Int32} {q w : Nat} {v : Int32} (a : AG f g) : AG f (m_X5_more_f g q w v) := AG_u a (by omega)
theorem WF_ag {f g : Nat → Int32} (h : WF f) (a : AG f g) : WF g := by
  unfold WF
  rw [a 5 (by decide), a 6 (by decide), a 1 (by decide)]
  refine ⟨h.1, h.2.1, h.2.2.1, fun j hj => ?_⟩
  rw [a (7 + j) (by omega)]
  exact h.2.2.2 j hj
def m_X5_takes_f (f : Nat → Int32) (fr : Nat) (q : Nat) : Nat → Int32 := if (f 4) - (m_X5_frameAt_r f fr 1) ≤ (m_X5_get_r (m_X5_more_f (m_X5_more_f (m_X5_more_f (upd (upd f (40 + (4 * fr) + 2) (nI 1)) (40 + (4 * fr) + 3) ((f 4) - (m_X5_frameAt_r f fr 1))) q 5 (nI 1)) q 9 (nI 1)) q 7 ((f 4) - (m_X5_frameAt_r f fr 1))) q 8) then (m_X5_lays_f (m_X5_more_f (m_X5_more_f (m_X5_more_f (upd (upd f (40 + (4 * fr) + 2) (nI 1)) (40 + (4 * fr) + 3) ((f 4) - (m_X5_frameAt_r f fr 1))) q 5 (nI 1)) q 9 (nI 1)) q 7 ((f 4) - (m_X5_frameAt_r f fr 1))) q 8 (m_X5_get_r (m_X5_more_f (m_X5_more_f (m_X5_more_f (upd (upd f (40 + (4 * fr) + 2) (nI 1)) (40 + (4 * fr) + 3) ((f 4) - (m_X5_frameAt_r f fr 1))) q 5 (nI 1)) q 9 (nI 1)) q 7 ((f 4) - (m_X5_frameAt_r f fr 1))) q 8)) else (m_X5_lays_f (m_X5_more_f (m_X5_more_f (m_X5_more_f (upd (upd f (40 + (4 * fr) + 2) (nI 1)) (40 + (4 * fr) + 3) ((f 4) - (m_X5_frameAt_r f fr 1))) q 5 (nI 1)) q 9 (nI 1)) q 7 ((f 4) - (m_X5_frameAt_r f fr 1))) q 8 ((f 4) - (m_X5_frameAt_r f fr 1)))
set_option maxHeartbeats 4000000 in
set_option maxRecDepth 100000 in
theorem c_X5_takes (l : Launch) (D : va_G) (k : Nat → ClassId) (a : Nat → Nat) (z : Nat → Int32) (f : Nat → Int32) (kp : Nat → Int32) (hi : Nat → Int32) (sl : Nat → Int32) (sv : Nat → Int32) (tx : Nat → Int32) (td : Nat → Int32) (fr : Nat) (q : Nat) (hfr : fr < 400) (hq : q < 3) : mV l yX5_takes (wsY yX5_takes cX5_takes 4 none) 1 D k [.ref (a 0), .int (nI fr), .int (nI q)] (refW k a z f kp hi sl sv tx td) (refW k a z (m_X5_takes_f f fr q) kp hi sl sv tx td) := by
  refine mV_intro rfl (Nat.le_of_ble_eq_true rfl) ?_
  intro p e s m args below meth c A Q ls X hW hl hQ
  have hx := X.hx
  have hb := X.hb
  have hl : lv_has ls 4 [(0, .ref (a 0)), (1, .int (nI fr)), (2, .int (nI q))] := hl
  refine lv_aload_n hx hb dX5_takes_0 rfl (lv_at hl 0 rfl) ?_
  refine k_get X hW inG5 rfl 0 (by decide) fl_X5_7 rfl 0 rfl (v := .ref (a 1)) rfl dX5_takes_1 ?_
  refine lv_iconst (v := nI 4) hx hb dX5_takes_4 (by decide +kernel) ?_
  refine k_iald X hW 1 rfl (j := 4) (v := f 4) rfl (by decide) (by decide) rfl dX5_takes_5 ?_
  refine lv_aload_n hx hb dX5_takes_6 rfl (lv_at hl 0 rfl) ?_
  refine lv_iload_n hx hb dX5_takes_7 rfl (lv_at hl 1 rfl) ?_
  refine lv_iconst (v := nI 1) hx hb dX5_takes_8 (by decide +kernel) ?_
  obtain ⟨z_1, hz_1⟩ : ∃ zq, m_X5_frameAt_r f fr 1 = zq := ⟨_, rfl⟩
  have hM_2 := (c_X5_frameAt l D k a z f kp hi sl sv tx td fr 1 (by first | decide | omega) (by first | decide | omega))
  rw [hz_1] at hM_2
  refine kVi (As := [.int (nI fr), .int (nI 1)]) (rest := [.int (f 4)]) X hW hM_2 yw_X5_frameAt lk_X5_45 ⟨Nat.le_of_ble_eq_true rfl, Nat.le_of_ble_eq_true rfl⟩ (wr := []) (List.Perm.refl _) (w' := refW k a z f kp hi sl sv tx td) (List.Perm.refl _) (k_rcv X hW (ci := 5) (q0 := 0) rfl rfl) rfl hl.1 rfl (Nat.le_of_ble_eq_true rfl) ⟨Nat.zero_le _, Nat.zero_le _⟩ dX5_takes_9 (fun H locs hW => ?_)
  refine lv_isub hx hb dX5_takes_12 ?_
  refine lv_istore_n (lv' := [(3, .int ((f 4) - z_1)), (0, .ref (a 0)), (1, .int (nI fr)), (2, .int (nI q))]) hx hb dX5_takes_13 rfl hl (by decide) rfl (fun ls hl => ?_)
  refine lv_aload_n hx hb dX5_takes_14 rfl (lv_at hl 1 rfl) ?_
  refine k_get X hW inG5 rfl 0 (by decide) fl_X5_7 rfl 0 rfl (v := .ref (a 1)) rfl dX5_takes_15 ?_
  refine lv_bipush (v := nI 40) hx hb dX5_takes_18 (by decide +kernel) ?_
  refine lv_iconst (v := nI 4) hx hb dX5_takes_20 (by decide +kernel) ?_
  refine lv_iload_n hx hb dX5_takes_21 rfl (lv_at hl 2 rfl) ?_
  refine lv_imul hx hb dX5_takes_22 ?_
  refine k_top (y := nI (4 * fr)) (pk_mul _ _) ?_
  refine lv_iadd hx hb dX5_takes_23 ?_
  refine k_top (y := nI (40 + (4 * fr))) (nI_add _ _) ?_
  refine lv_iconst (v := nI 2) hx hb dX5_takes_24 (by decide +kernel) ?_
  refine lv_iadd hx hb dX5_takes_25 ?_
  refine k_top (y := nI (40 + (4 * fr) + 2)) (nI_add _ _) ?_
  refine lv_iconst (v := nI 1) hx hb dX5_takes_26 (by decide +kernel) ?_
  refine k_iast X hW 1 rfl (j := (40 + (4 * fr) + 2)) rfl (by omega) (by decide) dX5_takes_27 (w' := refW k a z (upd f (40 + (4 * fr) + 2) (nI 1)) kp hi sl sv tx td) rfl (fun H locs hW => ?_)
  refine lv_aload_n hx hb dX5_takes_28 rfl (lv_at hl 1 rfl) ?_
  refine k_get X hW inG5 rfl 0 (by decide) fl_X5_7 rfl 0 rfl (v := .ref (a 1)) rfl dX5_takes_29 ?_
  refine lv_bipush (v := nI 40) hx hb dX5_takes_32 (by decide +kernel) ?_
  refine lv_iconst (v := nI 4) hx hb dX5_takes_34 (by decide +kernel) ?_
  refine lv_iload_n hx hb dX5_takes_35 rfl (lv_at hl 2 rfl) ?_
  refine lv_imul hx hb dX5_takes_36 ?_
  refine k_top (y := nI (4 * fr)) (pk_mul _ _) ?_
  refine lv_iadd hx hb dX5_takes_37 ?_
  refine k_top (y := nI (40 + (4 * fr))) (nI_add _ _) ?_
  refine lv_iconst (v := nI 3) hx hb dX5_takes_38 (by decide +kernel) ?_
  refine lv_iadd hx hb dX5_takes_39 ?_
  refine k_top (y := nI (40 + (4 * fr) + 3)) (nI_add _ _) ?_
  refine lv_iload_n hx hb dX5_takes_40 rfl (lv_at hl 0 rfl) ?_
  refine k_iast X hW 1 rfl (j := (40 + (4 * fr) + 3)) rfl (by omega) (by decide) dX5_takes_41 (w' := refW k a z (upd (upd f (40 + (4 * fr) + 2) (nI 1)) (40 + (4 * fr) + 3) ((f 4) - z_1)) kp hi sl sv tx td) rfl (fun H locs hW => ?_)
  refine lv_aload_n hx hb dX5_takes_42 rfl (lv_at hl 1 rfl) ?_
  refine lv_iload_n hx hb dX5_takes_43 rfl (lv_at hl 3 rfl) ?_
  refine lv_iconst (v := nI 5) hx hb dX5_takes_44 (by decide +kernel) ?_
  refine lv_iconst (v := nI 1) hx hb dX5_takes_45 (by decide +kernel) ?_
  obtain ⟨z_3, hz_3⟩ : ∃ zq, m_X5_more_f (upd (upd f (40 + (4 * fr) + 2) (nI 1)) (40 + (4 * fr) + 3) ((f 4) - z_1)) q 5 (nI 1) = zq := ⟨_, rfl⟩
  have hM_4 := (c_X5_more l D k a z (upd (upd f (40 + (4 * fr) + 2) (nI 1)) (40 + (4 * fr) + 3) ((f 4) - z_1)) kp hi sl sv tx td q 5 (nI 1) (by first | decide | omega) (by first | decide | omega))
  rw [hz_3] at hM_4
  refine kVv (As := [.int (nI q), .int (nI 5), .int (nI 1)]) (rest := []) X hW hM_4 yw_X5_more lk_X5_60 ⟨Nat.le_of_ble_eq_true rfl, Nat.le_of_ble_eq_true rfl⟩ (wr := []) (List.Perm.refl _) (w' := refW k a z z_3 kp hi sl sv tx td) (List.Perm.refl _) (k_rcv X hW (ci := 5) (q0 := 0) rfl rfl) rfl hl.1 rfl (Nat.le_of_ble_eq_true rfl) ⟨Nat.zero_le _, Nat.zero_le _⟩ dX5_takes_46 (fun H locs hW => ?_)
  refine lv_aload_n hx hb dX5_takes_49 rfl (lv_at hl 1 rfl) ?_
  refine lv_iload_n hx hb dX5_takes_50 rfl (lv_at hl 3 rfl) ?_
  refine lv_bipush (v := nI 9) hx hb dX5_takes_51 (by decide +kernel) ?_
  refine lv_iconst (v := nI 1) hx hb dX5_takes_53 (by decide +kernel) ?_
  obtain ⟨z_5, hz_5⟩ : ∃ zq, m_X5_more_f z_3 q 9 (nI 1) = zq := ⟨_, rfl⟩
  have hM_6 := (c_X5_more l D k a z z_3 kp hi sl sv tx td q 9 (nI 1) (by first | decide | omega) (by first | decide | omega))
  rw [hz_5] at hM_6
  refine kVv (As := [.int (nI q), .int (nI 9), .int (nI 1)]) (rest := []) X hW hM_6 yw_X5_more lk_X5_60 ⟨Nat.le_of_ble_eq_true rfl, Nat.le_of_ble_eq_true rfl⟩ (wr := []) (List.Perm.refl _) (w' := refW k a z z_5 kp hi sl sv tx td) (List.Perm.refl _) (k_rcv X hW (ci := 5) (q0 := 0) rfl rfl) rfl hl.1 rfl (Nat.le_of_ble_eq_true rfl) ⟨Nat.zero_le _, Nat.zero_le _⟩ dX5_takes_54 (fun H locs hW => ?_)
  refine lv_aload_n hx hb dX5_takes_57 rfl (lv_at hl 1 rfl) ?_
  refine lv_iload_n hx hb dX5_takes_58 rfl (lv_at hl 3 rfl) ?_
  refine lv_bipush (v := nI 7) hx hb dX5_takes_59 (by decide +kernel) ?_
  refine lv_iload_n hx hb dX5_takes_61 rfl (lv_at hl 0 rfl) ?_
  obtain ⟨z_7, hz_7⟩ : ∃ zq, m_X5_more_f z_5 q 7 ((f 4) - z_1) = zq := ⟨_, rfl⟩
  have hM_8 := (c_X5_more l D k a z z_5 kp hi sl sv tx td q 7 ((f 4) - z_1) (by first | decide | omega) (by first | decide | omega))
  rw [hz_7] at hM_8
  refine kVv (As := [.int (nI q), .int (nI 7), .int ((f 4) - z_1)]) (rest := []) X hW hM_8 yw_X5_more lk_X5_60 ⟨Nat.le_of_ble_eq_true rfl, Nat.le_of_ble_eq_true rfl⟩ (wr := []) (List.Perm.refl _) (w' := refW k a z z_7 kp hi sl sv tx td) (List.Perm.refl _) (k_rcv X hW (ci := 5) (q0 := 0) rfl rfl) rfl hl.1 rfl (Nat.le_of_ble_eq_true rfl) ⟨Nat.zero_le _, Nat.zero_le _⟩ dX5_takes_62 (fun H locs hW => ?_)
  refine lv_aload_n hx hb dX5_takes_65 rfl (lv_at hl 1 rfl) ?_
  refine lv_iload_n hx hb dX5_takes_66 rfl (lv_at hl 3 rfl) ?_
  refine lv_bipush (v := nI 8) hx hb dX5_takes_67 (by decide +kernel) ?_
  refine lv_iload_n hx hb dX5_takes_69 rfl (lv_at hl 0 rfl) ?_
  refine lv_aload_n hx hb dX5_takes_70 rfl (lv_at hl 1 rfl) ?_
  refine lv_iload_n hx hb dX5_takes_71 rfl (lv_at hl 3 rfl) ?_
  refine lv_bipush (v := nI 8) hx hb dX5_takes_72 (by decide +kernel) ?_
  obtain ⟨z_9, hz_9⟩ : ∃ zq, m_X5_get_r z_7 q 8 = zq := ⟨_, rfl⟩
  have hM_10 := (c_X5_get l D k a z z_7 kp hi sl sv tx td q 8 (by first | decide | omega) (by first | decide | omega))
  rw [hz_9] at hM_10
  refine kVi (As := [.int (nI q), .int (nI 8)]) (rest := [.int ((f 4) - z_1), .int (nI 8), .int (nI q), .ref (a 0)]) X hW hM_10 yw_X5_get lk_X5_53 ⟨Nat.le_of_ble_eq_true rfl, Nat.le_of_ble_eq_true rfl⟩ (wr := []) (List.Perm.refl _) (w' := refW k a z z_7 kp hi sl sv tx td) (List.Perm.refl _) (k_rcv X hW (ci := 5) (q0 := 0) rfl rfl) rfl hl.1 rfl (Nat.le_of_ble_eq_true rfl) ⟨Nat.zero_le _, Nat.zero_le _⟩ dX5_takes_74 (fun H locs hW => ?_)
  refine lv_icmp_le (tgt := 84) hx hb dX5_takes_77 (by decide) (fun c_11 => ?_) (fun c_11 => ?_)
  · refine lv_aload_n hx hb dX5_takes_84 rfl (lv_at hl 1 rfl) ?_
    refine lv_iload_n hx hb dX5_takes_85 rfl (lv_at hl 3 rfl) ?_
    refine lv_bipush (v := nI 8) hx hb dX5_takes_86 (by decide +kernel) ?_
    obtain ⟨z_12, hz_12⟩ : ∃ zq, m_X5_get_r z_7 q 8 = zq := ⟨_, rfl⟩
    have hM_13 := (c_X5_get l D k a z z_7 kp hi sl sv tx td q 8 (by first | decide | omega) (by first | decide | omega))
    rw [hz_12] at hM_13
    refine kVi (As := [.int (nI q), .int (nI 8)]) (rest := [.int (nI 8), .int (nI q), .ref (a 0)]) X hW hM_13 yw_X5_get lk_X5_53 ⟨Nat.le_of_ble_eq_true rfl, Nat.le_of_ble_eq_true rfl⟩ (wr := []) (List.Perm.refl _) (w' := refW k a z z_7 kp hi sl sv tx td) (List.Perm.refl _) (k_rcv X hW (ci := 5) (q0 := 0) rfl rfl) rfl hl.1 rfl (Nat.le_of_ble_eq_true rfl) ⟨Nat.zero_le _, Nat.zero_le _⟩ dX5_takes_88 (fun H locs hW => ?_)
    obtain ⟨z_14, hz_14⟩ : ∃ zq, m_X5_lays_f z_7 q 8 z_12 = zq := ⟨_, rfl⟩
    have hM_15 := (c_X5_lays l D k a z z_7 kp hi sl sv tx td q 8 z_12 (by first | decide | omega) (by first | decide | omega))
    rw [hz_14] at hM_15
    refine kVv (As := [.int (nI q), .int (nI 8), .int z_12]) (rest := []) X hW hM_15 yw_X5_lays lk_X5_31 ⟨Nat.le_of_ble_eq_true rfl, Nat.le_of_ble_eq_true rfl⟩ (wr := []) (List.Perm.refl _) (w' := refW k a z z_14 kp hi sl sv tx td) (List.Perm.refl _) (k_rcv X hW (ci := 5) (q0 := 0) rfl rfl) rfl hl.1 rfl (Nat.le_of_ble_eq_true rfl) ⟨Nat.zero_le _, Nat.zero_le _⟩ dX5_takes_91 (fun H locs hW => ?_)
    exact hQ _ _ _ _ _ hW dX5_takes_94 (by subst hz_14; subst hz_12; subst hz_9; subst hz_7; subst hz_5; subst hz_3; subst hz_1; rw [m_X5_takes_f, if_pos c_11])
  · refine lv_iload_n hx hb dX5_takes_80 rfl (lv_at hl 0 rfl) ?_
    refine lv_goto (tgt := 91) hx hb dX5_takes_81 (by decide) ?_
    obtain ⟨z_16, hz_16⟩ : ∃ zq, m_X5_lays_f z_7 q 8 ((f 4) - z_1) = zq := ⟨_, rfl⟩
    have hM_17 := (c_X5_lays l D k a z z_7 kp hi sl sv tx td q 8 ((f 4) - z_1) (by first | decide | omega) (by first | decide | omega))
    rw [hz_16] at hM_17
    refine kVv (As := [.int (nI q), .int (nI 8), .int ((f 4) - z_1)]) (rest := []) X hW hM_17 yw_X5_lays lk_X5_31 ⟨Nat.le_of_ble_eq_true rfl, Nat.le_of_ble_eq_true rfl⟩ (wr := []) (List.Perm.refl _) (w' := refW k a z z_16 kp hi sl sv tx td) (List.Perm.refl _) (k_rcv X hW (ci := 5) (q0 := 0) rfl rfl) rfl hl.1 rfl (Nat.le_of_ble_eq_true rfl) ⟨Nat.zero_le _, Nat.zero_le _⟩ dX5_takes_91 (fun H locs hW => ?_)
    exact hQ _ _ _ _ _ hW dX5_takes_94 (by subst hz_16; subst hz_9; subst hz_7; subst hz_5; subst hz_3; subst hz_1; rw [m_X5_takes_f, if_neg c_11])
theorem AG_takes {f : Nat → Int32} {fr q : Nat} : AG f (m_X5_takes_f f fr q) := by
  rw [m_X5_takes_f]
  split <;> exact AG_lays (AG_more (AG_more (AG_more (AG_u (AG_u (AG.rf f) (by omega)) (by omega)))))
def m_X5_leaves_f (f : Nat → Int32) (q : Nat) : Nat → Int32 := if f 2 = nI 1 then (if (m_X5_get_r f q 9) ≤ (nI 2) * (m_X5_get_r f q 2) then (if (m_X5_get_r f q 2) ≤ (nI 2) * (m_X5_get_r f q 9) then (m_X5_lays_f f q 9 (nI 0)) else if nI 1 ≤ (m_X5_get_r f q 2) / (nI 2) then (m_X5_lays_f (m_X5_lays_f f q 2 ((m_X5_get_r f q 2) / (nI 2))) q 9 (nI 0)) else (m_X5_lays_f (m_X5_lays_f f q 2 (nI 1)) q 9 (nI 0))) else if (nI 2) * (m_X5_get_r f q 2) ≤ nI 32 then (m_X5_lays_f (m_X5_lays_f f q 2 ((nI 2) * (m_X5_get_r f q 2))) q 9 (nI 0)) else (m_X5_lays_f (m_X5_lays_f f q 2 (nI 32)) q 9 (nI 0))) else (m_X5_lays_f f q 9 (nI 0))
set_option maxHeartbeats 4000000 in
set_option maxRecDepth 100000 in
theorem c_X5_leaves (l : Launch) (D : va_G) (k : Nat → ClassId) (a : Nat → Nat) (z : Nat → Int32) (f : Nat → Int32) (kp : Nat → Int32) (hi : Nat → Int32) (sl : Nat → Int32) (sv : Nat → Int32) (tx : Nat → Int32) (td : Nat → Int32) (q : Nat) (hq : q < 3) : mV l yX5_leaves (wsY yX5_leaves cX5_leaves 4 none) 1 D k [.ref (a 0), .int (nI q)] (refW k a z f kp hi sl sv tx td) (refW k a z (m_X5_leaves_f f q) kp hi sl sv tx td) := by
  refine mV_intro rfl (Nat.le_of_ble_eq_true rfl) ?_
  intro p e s m args below meth c A Q ls X hW hl hQ
  have hx := X.hx
  have hb := X.hb
  have hl : lv_has ls 4 [(0, .ref (a 0)), (1, .int (nI q))] := hl
  refine lv_aload_n hx hb dX5_leaves_0 rfl (lv_at hl 0 rfl) ?_
  refine lv_iload_n hx hb dX5_leaves_1 rfl (lv_at hl 1 rfl) ?_
  refine lv_bipush (v := nI 9) hx hb dX5_leaves_2 (by decide +kernel) ?_
  obtain ⟨z_1, hz_1⟩ : ∃ zq, m_X5_get_r f q 9 = zq := ⟨_, rfl⟩
  have hM_2 := (c_X5_get l D k a z f kp hi sl sv tx td q 9 (by first | decide | omega) (by first | decide | omega))
  rw [hz_1] at hM_2
  refine kVi (As := [.int (nI q), .int (nI 9)]) (rest := []) X hW hM_2 yw_X5_get lk_X5_53 ⟨Nat.le_of_ble_eq_true rfl, Nat.le_of_ble_eq_true rfl⟩ (wr := []) (List.Perm.refl _) (w' := refW k a z f kp hi sl sv tx td) (List.Perm.refl _) (k_rcv X hW (ci := 5) (q0 := 0) rfl rfl) rfl hl.1 rfl (Nat.le_of_ble_eq_true rfl) ⟨Nat.zero_le _, Nat.zero_le _⟩ dX5_leaves_4 (fun H locs hW => ?_)
  refine lv_istore_n (lv' := [(2, .int z_1), (0, .ref (a 0)), (1, .int (nI q))]) hx hb dX5_leaves_7 rfl hl (by decide) rfl (fun ls hl => ?_)
  refine lv_aload_n hx hb dX5_leaves_8 rfl (lv_at hl 1 rfl) ?_
  refine lv_iload_n hx hb dX5_leaves_9 rfl (lv_at hl 2 rfl) ?_
  refine lv_iconst (v := nI 2) hx hb dX5_leaves_10 (by decide +kernel) ?_
  obtain ⟨z_3, hz_3⟩ : ∃ zq, m_X5_get_r f q 2 = zq := ⟨_, rfl⟩
  have hM_4 := (c_X5_get l D k a z f kp hi sl sv tx td q 2 (by first | decide | omega) (by first | decide | omega))
  rw [hz_3] at hM_4
  refine kVi (As := [.int (nI q), .int (nI 2)]) (rest := []) X hW hM_4 yw_X5_get lk_X5_53 ⟨Nat.le_of_ble_eq_true rfl, Nat.le_of_ble_eq_true rfl⟩ (wr := []) (List.Perm.refl _) (w' := refW k a z f kp hi sl sv tx td) (List.Perm.refl _) (k_rcv X hW (ci := 5) (q0 := 0) rfl rfl) rfl hl.1 rfl (Nat.le_of_ble_eq_true rfl) ⟨Nat.zero_le _, Nat.zero_le _⟩ dX5_leaves_11 (fun H locs hW => ?_)
  refine lv_istore_n (lv' := [(3, .int z_3), (2, .int z_1), (0, .ref (a 0)), (1, .int (nI q))]) hx hb dX5_leaves_14 rfl hl (by decide) rfl (fun ls hl => ?_)
  refine lv_aload_n hx hb dX5_leaves_15 rfl (lv_at hl 2 rfl) ?_
  refine k_get X hW inG5 rfl 0 (by decide) fl_X5_7 rfl 0 rfl (v := .ref (a 1)) rfl dX5_leaves_16 ?_
  refine lv_iconst (v := nI 2) hx hb dX5_leaves_19 (by decide +kernel) ?_
  refine k_iald X hW 1 rfl (j := 2) (v := f 2) rfl (by decide) (by decide) rfl dX5_leaves_20 ?_
  refine lv_iconst (v := nI 1) hx hb dX5_leaves_21 (by decide +kernel) ?_
  refine lv_icmp_ne (tgt := 57) hx hb dX5_leaves_22 (by decide) (fun c_5 => ?_) (fun c_5 => ?_)
  · refine lv_aload_n hx hb dX5_leaves_57 rfl (lv_at hl 2 rfl) ?_
    refine k_get X hW inG5 rfl 0 (by decide) fl_X5_7 rfl 0 rfl (v := .ref (a 1)) rfl dX5_leaves_58 ?_
    refine lv_iconst (v := nI 2) hx hb dX5_leaves_61 (by decide +kernel) ?_
    refine k_iald X hW 1 rfl (j := 2) (v := f 2) rfl (by decide) (by decide) rfl dX5_leaves_62 ?_
    refine lv_iconst (v := nI 1) hx hb dX5_leaves_63 (by decide +kernel) ?_
    refine lv_icmp_ne (tgt := 94) hx hb dX5_leaves_64 (by decide) (fun c_6 => ?_) (fun c_6 => ?_)
    · refine lv_aload_n hx hb dX5_leaves_94 rfl (lv_at hl 2 rfl) ?_
      refine lv_iload_n hx hb dX5_leaves_95 rfl (lv_at hl 3 rfl) ?_
      refine lv_bipush (v := nI 9) hx hb dX5_leaves_96 (by decide +kernel) ?_
      refine lv_iconst (v := nI 0) hx hb dX5_leaves_98 (by decide +kernel) ?_
      obtain ⟨z_7, hz_7⟩ : ∃ zq, m_X5_lays_f f q 9 (nI 0) = zq := ⟨_, rfl⟩
      have hM_8 := (c_X5_lays l D k a z f kp hi sl sv tx td q 9 (nI 0) (by first | decide | omega) (by first | decide | omega))
      rw [hz_7] at hM_8
      refine kVv (As := [.int (nI q), .int (nI 9), .int (nI 0)]) (rest := []) X hW hM_8 yw_X5_lays lk_X5_31 ⟨Nat.le_of_ble_eq_true rfl, Nat.le_of_ble_eq_true rfl⟩ (wr := []) (List.Perm.refl _) (w' := refW k a z z_7 kp hi sl sv tx td) (List.Perm.refl _) (k_rcv X hW (ci := 5) (q0 := 0) rfl rfl) rfl hl.1 rfl (Nat.le_of_ble_eq_true rfl) ⟨Nat.zero_le _, Nat.zero_le _⟩ dX5_leaves_99 (fun H locs hW => ?_)
      exact hQ _ _ _ _ _ hW dX5_leaves_102 (by subst hz_7; subst hz_3; subst hz_1; rw [m_X5_leaves_f, if_neg c_5])
    · exact absurd c_6 c_5
  · refine lv_iload_n hx hb dX5_leaves_25 rfl (lv_at hl 1 rfl) ?_
    refine lv_iconst (v := nI 2) hx hb dX5_leaves_26 (by decide +kernel) ?_
    refine lv_iload_n hx hb dX5_leaves_27 rfl (lv_at hl 0 rfl) ?_
    refine lv_imul hx hb dX5_leaves_28 ?_
    refine lv_icmp_le (tgt := 57) hx hb dX5_leaves_29 (by decide) (fun c_9 => ?_) (fun c_9 => ?_)
    · refine lv_aload_n hx hb dX5_leaves_57 rfl (lv_at hl 2 rfl) ?_
      refine k_get X hW inG5 rfl 0 (by decide) fl_X5_7 rfl 0 rfl (v := .ref (a 1)) rfl dX5_leaves_58 ?_
      refine lv_iconst (v := nI 2) hx hb dX5_leaves_61 (by decide +kernel) ?_
      refine k_iald X hW 1 rfl (j := 2) (v := f 2) rfl (by decide) (by decide) rfl dX5_leaves_62 ?_
      refine lv_iconst (v := nI 1) hx hb dX5_leaves_63 (by decide +kernel) ?_
      refine lv_icmp_ne (tgt := 94) hx hb dX5_leaves_64 (by decide) (fun c_10 => ?_) (fun c_10 => ?_)
      · exact absurd c_5 c_10
      · refine lv_iconst (v := nI 2) hx hb dX5_leaves_67 (by decide +kernel) ?_
        refine lv_iload_n hx hb dX5_leaves_68 rfl (lv_at hl 1 rfl) ?_
        refine lv_imul hx hb dX5_leaves_69 ?_
        refine lv_iload_n hx hb dX5_leaves_70 rfl (lv_at hl 0 rfl) ?_
        refine lv_icmp_ge (tgt := 94) hx hb dX5_leaves_71 (by decide) (fun c_11 => ?_) (fun c_11 => ?_)
        · refine lv_aload_n hx hb dX5_leaves_94 rfl (lv_at hl 2 rfl) ?_
          refine lv_iload_n hx hb dX5_leaves_95 rfl (lv_at hl 3 rfl) ?_
          refine lv_bipush (v := nI 9) hx hb dX5_leaves_96 (by decide +kernel) ?_
          refine lv_iconst (v := nI 0) hx hb dX5_leaves_98 (by decide +kernel) ?_
          obtain ⟨z_12, hz_12⟩ : ∃ zq, m_X5_lays_f f q 9 (nI 0) = zq := ⟨_, rfl⟩
          have hM_13 := (c_X5_lays l D k a z f kp hi sl sv tx td q 9 (nI 0) (by first | decide | omega) (by first | decide | omega))
          rw [hz_12] at hM_13
          refine kVv (As := [.int (nI q), .int (nI 9), .int (nI 0)]) (rest := []) X hW hM_13 yw_X5_lays lk_X5_31 ⟨Nat.le_of_ble_eq_true rfl, Nat.le_of_ble_eq_true rfl⟩ (wr := []) (List.Perm.refl _) (w' := refW k a z z_12 kp hi sl sv tx td) (List.Perm.refl _) (k_rcv X hW (ci := 5) (q0 := 0) rfl rfl) rfl hl.1 rfl (Nat.le_of_ble_eq_true rfl) ⟨Nat.zero_le _, Nat.zero_le _⟩ dX5_leaves_99 (fun H locs hW => ?_)
          exact hQ _ _ _ _ _ hW dX5_leaves_102 (by subst hz_12; subst hz_3; subst hz_1; rw [m_X5_leaves_f, if_pos c_5, if_pos c_9, if_pos c_11])
        · refine lv_aload_n hx hb dX5_leaves_74 rfl (lv_at hl 2 rfl) ?_
          refine lv_iload_n hx hb dX5_leaves_75 rfl (lv_at hl 3 rfl) ?_
          refine lv_iconst (v := nI 2) hx hb dX5_leaves_76 (by decide +kernel) ?_
          refine lv_iload_n hx hb dX5_leaves_77 rfl (lv_at hl 0 rfl) ?_
          refine lv_iconst (v := nI 2) hx hb dX5_leaves_78 (by decide +kernel) ?_
          refine lv_idiv hx hb dX5_leaves_79 (by decide +kernel) ?_
          refine lv_iconst (v := nI 1) hx hb dX5_leaves_80 (by decide +kernel) ?_
          refine lv_icmp_ge (tgt := 88) hx hb dX5_leaves_81 (by decide) (fun c_14 => ?_) (fun c_14 => ?_)
          · refine lv_iload_n hx hb dX5_leaves_88 rfl (lv_at hl 0 rfl) ?_
            refine lv_iconst (v := nI 2) hx hb dX5_leaves_89 (by decide +kernel) ?_
            refine lv_idiv hx hb dX5_leaves_90 (by decide +kernel) ?_
            obtain ⟨z_15, hz_15⟩ : ∃ zq, m_X5_lays_f f q 2 (z_3 / (nI 2)) = zq := ⟨_, rfl⟩
            have hM_16 := (c_X5_lays l D k a z f kp hi sl sv tx td q 2 (z_3 / (nI 2)) (by first | decide | omega) (by first | decide | omega))
            rw [hz_15] at hM_16
            refine kVv (As := [.int (nI q), .int (nI 2), .int (z_3 / (nI 2))]) (rest := []) X hW hM_16 yw_X5_lays lk_X5_31 ⟨Nat.le_of_ble_eq_true rfl, Nat.le_of_ble_eq_true rfl⟩ (wr := []) (List.Perm.refl _) (w' := refW k a z z_15 kp hi sl sv tx td) (List.Perm.refl _) (k_rcv X hW (ci := 5) (q0 := 0) rfl rfl) rfl hl.1 rfl (Nat.le_of_ble_eq_true rfl) ⟨Nat.zero_le _, Nat.zero_le _⟩ dX5_leaves_91 (fun H locs hW => ?_)
            refine lv_aload_n hx hb dX5_leaves_94 rfl (lv_at hl 2 rfl) ?_
            refine lv_iload_n hx hb dX5_leaves_95 rfl (lv_at hl 3 rfl) ?_
            refine lv_bipush (v := nI 9) hx hb dX5_leaves_96 (by decide +kernel) ?_
            refine lv_iconst (v := nI 0) hx hb dX5_leaves_98 (by decide +kernel) ?_
            obtain ⟨z_17, hz_17⟩ : ∃ zq, m_X5_lays_f z_15 q 9 (nI 0) = zq := ⟨_, rfl⟩
            have hM_18 := (c_X5_lays l D k a z z_15 kp hi sl sv tx td q 9 (nI 0) (by first | decide | omega) (by first | decide | omega))
            rw [hz_17] at hM_18
            refine kVv (As := [.int (nI q), .int (nI 9), .int (nI 0)]) (rest := []) X hW hM_18 yw_X5_lays lk_X5_31 ⟨Nat.le_of_ble_eq_true rfl, Nat.le_of_ble_eq_true rfl⟩ (wr := []) (List.Perm.refl _) (w' := refW k a z z_17 kp hi sl sv tx td) (List.Perm.refl _) (k_rcv X hW (ci := 5) (q0 := 0) rfl rfl) rfl hl.1 rfl (Nat.le_of_ble_eq_true rfl) ⟨Nat.zero_le _, Nat.zero_le _⟩ dX5_leaves_99 (fun H locs hW => ?_)
            exact hQ _ _ _ _ _ hW dX5_leaves_102 (by subst hz_17; subst hz_15; subst hz_3; subst hz_1; rw [m_X5_leaves_f, if_pos c_5, if_pos c_9, if_neg c_11, if_pos c_14])
          · refine lv_iconst (v := nI 1) hx hb dX5_leaves_84 (by decide +kernel) ?_
            refine lv_goto (tgt := 91) hx hb dX5_leaves_85 (by decide) ?_
            obtain ⟨z_19, hz_19⟩ : ∃ zq, m_X5_lays_f f q 2 (nI 1) = zq := ⟨_, rfl⟩
            have hM_20 := (c_X5_lays l D k a z f kp hi sl sv tx td q 2 (nI 1) (by first | decide | omega) (by first | decide | omega))
            rw [hz_19] at hM_20
            refine kVv (As := [.int (nI q), .int (nI 2), .int (nI 1)]) (rest := []) X hW hM_20 yw_X5_lays lk_X5_31 ⟨Nat.le_of_ble_eq_true rfl, Nat.le_of_ble_eq_true rfl⟩ (wr := []) (List.Perm.refl _) (w' := refW k a z z_19 kp hi sl sv tx td) (List.Perm.refl _) (k_rcv X hW (ci := 5) (q0 := 0) rfl rfl) rfl hl.1 rfl (Nat.le_of_ble_eq_true rfl) ⟨Nat.zero_le _, Nat.zero_le _⟩ dX5_leaves_91 (fun H locs hW => ?_)
            refine lv_aload_n hx hb dX5_leaves_94 rfl (lv_at hl 2 rfl) ?_
            refine lv_iload_n hx hb dX5_leaves_95 rfl (lv_at hl 3 rfl) ?_
            refine lv_bipush (v := nI 9) hx hb dX5_leaves_96 (by decide +kernel) ?_
            refine lv_iconst (v := nI 0) hx hb dX5_leaves_98 (by decide +kernel) ?_
            obtain ⟨z_21, hz_21⟩ : ∃ zq, m_X5_lays_f z_19 q 9 (nI 0) = zq := ⟨_, rfl⟩
            have hM_22 := (c_X5_lays l D k a z z_19 kp hi sl sv tx td q 9 (nI 0) (by first | decide | omega) (by first | decide | omega))
            rw [hz_21] at hM_22
            refine kVv (As := [.int (nI q), .int (nI 9), .int (nI 0)]) (rest := []) X hW hM_22 yw_X5_lays lk_X5_31 ⟨Nat.le_of_ble_eq_true rfl, Nat.le_of_ble_eq_true rfl⟩ (wr := []) (List.Perm.refl _) (w' := refW k a z z_21 kp hi sl sv tx td) (List.Perm.refl _) (k_rcv X hW (ci := 5) (q0 := 0) rfl rfl) rfl hl.1 rfl (Nat.le_of_ble_eq_true rfl) ⟨Nat.zero_le _, Nat.zero_le _⟩ dX5_leaves_99 (fun H locs hW => ?_)
            exact hQ _ _ _ _ _ hW dX5_leaves_102 (by subst hz_21; subst hz_19; subst hz_3; subst hz_1; rw [m_X5_leaves_f, if_pos c_5, if_pos c_9, if_neg c_11, if_neg c_14])
    · refine lv_aload_n hx hb dX5_leaves_32 rfl (lv_at hl 2 rfl) ?_
      refine lv_iload_n hx hb dX5_leaves_33 rfl (lv_at hl 3 rfl) ?_
      refine lv_iconst (v := nI 2) hx hb dX5_leaves_34 (by decide +kernel) ?_
      refine lv_iconst (v := nI 2) hx hb dX5_leaves_35 (by decide +kernel) ?_
      refine lv_iload_n hx hb dX5_leaves_36 rfl (lv_at hl 0 rfl) ?_
      refine lv_imul hx hb dX5_leaves_37 ?_
      refine lv_bipush (v := nI 32) hx hb dX5_leaves_38 (by decide +kernel) ?_
      refine lv_icmp_le (tgt := 48) hx hb dX5_leaves_40 (by decide) (fun c_23 => ?_) (fun c_23 => ?_)
      · refine lv_iconst (v := nI 2) hx hb dX5_leaves_48 (by decide +kernel) ?_
        refine lv_iload_n hx hb dX5_leaves_49 rfl (lv_at hl 0 rfl) ?_
        refine lv_imul hx hb dX5_leaves_50 ?_
        obtain ⟨z_24, hz_24⟩ : ∃ zq, m_X5_lays_f f q 2 ((nI 2) * z_3) = zq := ⟨_, rfl⟩
        have hM_25 := (c_X5_lays l D k a z f kp hi sl sv tx td q 2 ((nI 2) * z_3) (by first | decide | omega) (by first | decide | omega))
        rw [hz_24] at hM_25
        refine kVv (As := [.int (nI q), .int (nI 2), .int ((nI 2) * z_3)]) (rest := []) X hW hM_25 yw_X5_lays lk_X5_31 ⟨Nat.le_of_ble_eq_true rfl, Nat.le_of_ble_eq_true rfl⟩ (wr := []) (List.Perm.refl _) (w' := refW k a z z_24 kp hi sl sv tx td) (List.Perm.refl _) (k_rcv X hW (ci := 5) (q0 := 0) rfl rfl) rfl hl.1 rfl (Nat.le_of_ble_eq_true rfl) ⟨Nat.zero_le _, Nat.zero_le _⟩ dX5_leaves_51 (fun H locs hW => ?_)
        refine lv_goto (tgt := 94) hx hb dX5_leaves_54 (by decide) ?_
        refine lv_aload_n hx hb dX5_leaves_94 rfl (lv_at hl 2 rfl) ?_
        refine lv_iload_n hx hb dX5_leaves_95 rfl (lv_at hl 3 rfl) ?_
        refine lv_bipush (v := nI 9) hx hb dX5_leaves_96 (by decide +kernel) ?_
        refine lv_iconst (v := nI 0) hx hb dX5_leaves_98 (by decide +kernel) ?_
        obtain ⟨z_26, hz_26⟩ : ∃ zq, m_X5_lays_f z_24 q 9 (nI 0) = zq := ⟨_, rfl⟩
        have hM_27 := (c_X5_lays l D k a z z_24 kp hi sl sv tx td q 9 (nI 0) (by first | decide | omega) (by first | decide | omega))
        rw [hz_26] at hM_27
        refine kVv (As := [.int (nI q), .int (nI 9), .int (nI 0)]) (rest := []) X hW hM_27 yw_X5_lays lk_X5_31 ⟨Nat.le_of_ble_eq_true rfl, Nat.le_of_ble_eq_true rfl⟩ (wr := []) (List.Perm.refl _) (w' := refW k a z z_26 kp hi sl sv tx td) (List.Perm.refl _) (k_rcv X hW (ci := 5) (q0 := 0) rfl rfl) rfl hl.1 rfl (Nat.le_of_ble_eq_true rfl) ⟨Nat.zero_le _, Nat.zero_le _⟩ dX5_leaves_99 (fun H locs hW => ?_)
        exact hQ _ _ _ _ _ hW dX5_leaves_102 (by subst hz_26; subst hz_24; subst hz_3; subst hz_1; rw [m_X5_leaves_f, if_pos c_5, if_neg c_9, if_pos c_23])
      · refine lv_bipush (v := nI 32) hx hb dX5_leaves_43 (by decide +kernel) ?_
        refine lv_goto (tgt := 51) hx hb dX5_leaves_45 (by decide) ?_
        obtain ⟨z_28, hz_28⟩ : ∃ zq, m_X5_lays_f f q 2 (nI 32) = zq := ⟨_, rfl⟩
        have hM_29 := (c_X5_lays l D k a z f kp hi sl sv tx td q 2 (nI 32) (by first | decide | omega) (by first | decide | omega))
        rw [hz_28] at hM_29
        refine kVv (As := [.int (nI q), .int (nI 2), .int (nI 32)]) (rest := []) X hW hM_29 yw_X5_lays lk_X5_31 ⟨Nat.le_of_ble_eq_true rfl, Nat.le_of_ble_eq_true rfl⟩ (wr := []) (List.Perm.refl _) (w' := refW k a z z_28 kp hi sl sv tx td) (List.Perm.refl _) (k_rcv X hW (ci := 5) (q0 := 0) rfl rfl) rfl hl.1 rfl (Nat.le_of_ble_eq_true rfl) ⟨Nat.zero_le _, Nat.zero_le _⟩ dX5_leaves_51 (fun H locs hW => ?_)
        refine lv_goto (tgt := 94) hx hb dX5_leaves_54 (by decide) ?_
        refine lv_aload_n hx hb dX5_leaves_94 rfl (lv_at hl 2 rfl) ?_
        refine lv_iload_n hx hb dX5_leaves_95 rfl (lv_at hl 3 rfl) ?_
        refine lv_bipush (v := nI 9) hx hb dX5_leaves_96 (by decide +kernel) ?_
        refine lv_iconst (v := nI 0) hx hb dX5_leaves_98 (by decide +kernel) ?_
        obtain ⟨z_30, hz_30⟩ : ∃ zq, m_X5_lays_f z_28 q 9 (nI 0) = zq := ⟨_, rfl⟩
        have hM_31 := (c_X5_lays l D k a z z_28 kp hi sl sv tx td q 9 (nI 0) (by first | decide | omega) (by first | decide | omega))
        rw [hz_30] at hM_31
        refine kVv (As := [.int (nI q), .int (nI 9), .int (nI 0)]) (rest := []) X hW hM_31 yw_X5_lays lk_X5_31 ⟨Nat.le_of_ble_eq_true rfl, Nat.le_of_ble_eq_true rfl⟩ (wr := []) (List.Perm.refl _) (w' := refW k a z z_30 kp hi sl sv tx td) (List.Perm.refl _) (k_rcv X hW (ci := 5) (q0 := 0) rfl rfl) rfl hl.1 rfl (Nat.le_of_ble_eq_true rfl) ⟨Nat.zero_le _, Nat.zero_le _⟩ dX5_leaves_99 (fun H locs hW => ?_)
        exact hQ _ _ _ _ _ hW dX5_leaves_102 (by subst hz_30; subst hz_28; subst hz_3; subst hz_1; rw [m_X5_leaves_f, if_pos c_5, if_neg c_9, if_neg c_23])
theorem AG_leaves {f : Nat → Int32} {q : Nat} : AG f (m_X5_leaves_f f q) := by
  rw [m_X5_leaves_f]
  repeat (first | exact AG_lays (AG_lays (AG.rf f)) | exact AG_lays (AG.rf f) | split)
def m_X5_doBounds_r (f : Nat → Int32) (q : Nat) : Int32 := (m_X5_get_r f q 0)
def m_X5_doBounds_f (f : Nat → Int32) (q : Nat) (c1 : Int32) (w1 : Int32) : Nat → Int32 := (m_X5_lays_f (m_X5_lays_f (m_X5_lays_f f q 0 c1) q 1 w1) q 2 c1)
set_option maxHeartbeats 4000000 in
set_option maxRecDepth 100000 in
theorem c_X5_doBounds (l : Launch) (D : va_G) (k : Nat → ClassId) (a : Nat → Nat) (z : Nat → Int32) (f : Nat → Int32) (kp : Nat → Int32) (hi : Nat → Int32) (sl : Nat → Int32) (sv : Nat → Int32) (tx : Nat → Int32) (td : Nat → Int32) (q : Nat) (c1 : Int32) (w1 : Int32) (hq : q < 3) : mI l yX5_doBounds (wsY yX5_doBounds cX5_doBounds 5 (some .int)) 1 D k [.ref (a 0), .int (nI q), .int c1, .int w1] (refW k a z f kp hi sl sv tx td) (refW k a z (m_X5_doBounds_f f q c1 w1) kp hi sl sv tx td) (m_X5_doBounds_r f q) := by
  refine mI_intro rfl (Nat.le_of_ble_eq_true rfl) (Or.inl rfl) ?_
  intro p e s m args below meth c A Q ls X hW hl hQ
  have hx := X.hx
  have hb := X.hb
  have hl : lv_has ls 5 [(0, .ref (a 0)), (1, .int (nI q)), (2, .int c1), (3, .int w1)] := hl
  refine lv_aload_n hx hb dX5_doBounds_0 rfl (lv_at hl 0 rfl) ?_
  refine lv_iload_n hx hb dX5_doBounds_1 rfl (lv_at hl 1 rfl) ?_
  refine lv_iconst (v := nI 0) hx hb dX5_doBounds_2 (by decide +kernel) ?_
  obtain ⟨z_1, hz_1⟩ : ∃ zq, m_X5_get_r f q 0 = zq := ⟨_, rfl⟩
  have hM_2 := (c_X5_get l D k a z f kp hi sl sv tx td q 0 (by first | decide | omega) (by first | decide | omega))
  rw [hz_1] at hM_2
  refine kVi (As := [.int (nI q), .int (nI 0)]) (rest := []) X hW hM_2 yw_X5_get lk_X5_53 ⟨Nat.le_of_ble_eq_true rfl, Nat.le_of_ble_eq_true rfl⟩ (wr := []) (List.Perm.refl _) (w' := refW k a z f kp hi sl sv tx td) (List.Perm.refl _) (k_rcv X hW (ci := 5) (q0 := 0) rfl rfl) rfl hl.1 rfl (Nat.le_of_ble_eq_true rfl) ⟨Nat.zero_le _, Nat.zero_le _⟩ dX5_doBounds_3 (fun H locs hW => ?_)
  refine lv_istore (lv' := [(4, .int z_1), (0, .ref (a 0)), (1, .int (nI q)), (2, .int c1), (3, .int w1)]) hx hb dX5_doBounds_6 hl (by decide) rfl (fun ls hl => ?_)
  refine lv_aload_n hx hb dX5_doBounds_8 rfl (lv_at hl 1 rfl) ?_
  refine lv_iload_n hx hb dX5_doBounds_9 rfl (lv_at hl 2 rfl) ?_
  refine lv_iconst (v := nI 0) hx hb dX5_doBounds_10 (by decide +kernel) ?_
  refine lv_iload_n hx hb dX5_doBounds_11 rfl (lv_at hl 3 rfl) ?_
  obtain ⟨z_3, hz_3⟩ : ∃ zq, m_X5_lays_f f q 0 c1 = zq := ⟨_, rfl⟩
  have hM_4 := (c_X5_lays l D k a z f kp hi sl sv tx td q 0 c1 (by first | decide | omega) (by first | decide | omega))
  rw [hz_3] at hM_4
  refine kVv (As := [.int (nI q), .int (nI 0), .int c1]) (rest := []) X hW hM_4 yw_X5_lays lk_X5_31 ⟨Nat.le_of_ble_eq_true rfl, Nat.le_of_ble_eq_true rfl⟩ (wr := []) (List.Perm.refl _) (w' := refW k a z z_3 kp hi sl sv tx td) (List.Perm.refl _) (k_rcv X hW (ci := 5) (q0 := 0) rfl rfl) rfl hl.1 rfl (Nat.le_of_ble_eq_true rfl) ⟨Nat.zero_le _, Nat.zero_le _⟩ dX5_doBounds_12 (fun H locs hW => ?_)
  refine lv_aload_n hx hb dX5_doBounds_15 rfl (lv_at hl 1 rfl) ?_
  refine lv_iload_n hx hb dX5_doBounds_16 rfl (lv_at hl 2 rfl) ?_
  refine lv_iconst (v := nI 1) hx hb dX5_doBounds_17 (by decide +kernel) ?_
  refine lv_iload_n hx hb dX5_doBounds_18 rfl (lv_at hl 4 rfl) ?_
  obtain ⟨z_5, hz_5⟩ : ∃ zq, m_X5_lays_f z_3 q 1 w1 = zq := ⟨_, rfl⟩
  have hM_6 := (c_X5_lays l D k a z z_3 kp hi sl sv tx td q 1 w1 (by first | decide | omega) (by first | decide | omega))
  rw [hz_5] at hM_6
  refine kVv (As := [.int (nI q), .int (nI 1), .int w1]) (rest := []) X hW hM_6 yw_X5_lays lk_X5_31 ⟨Nat.le_of_ble_eq_true rfl, Nat.le_of_ble_eq_true rfl⟩ (wr := []) (List.Perm.refl _) (w' := refW k a z z_5 kp hi sl sv tx td) (List.Perm.refl _) (k_rcv X hW (ci := 5) (q0 := 0) rfl rfl) rfl hl.1 rfl (Nat.le_of_ble_eq_true rfl) ⟨Nat.zero_le _, Nat.zero_le _⟩ dX5_doBounds_19 (fun H locs hW => ?_)
  refine lv_aload_n hx hb dX5_doBounds_22 rfl (lv_at hl 1 rfl) ?_
  refine lv_iload_n hx hb dX5_doBounds_23 rfl (lv_at hl 2 rfl) ?_
  refine lv_iconst (v := nI 2) hx hb dX5_doBounds_24 (by decide +kernel) ?_
  refine lv_iload_n hx hb dX5_doBounds_25 rfl (lv_at hl 3 rfl) ?_
  obtain ⟨z_7, hz_7⟩ : ∃ zq, m_X5_lays_f z_5 q 2 c1 = zq := ⟨_, rfl⟩
  have hM_8 := (c_X5_lays l D k a z z_5 kp hi sl sv tx td q 2 c1 (by first | decide | omega) (by first | decide | omega))
  rw [hz_7] at hM_8
  refine kVv (As := [.int (nI q), .int (nI 2), .int c1]) (rest := []) X hW hM_8 yw_X5_lays lk_X5_31 ⟨Nat.le_of_ble_eq_true rfl, Nat.le_of_ble_eq_true rfl⟩ (wr := []) (List.Perm.refl _) (w' := refW k a z z_7 kp hi sl sv tx td) (List.Perm.refl _) (k_rcv X hW (ci := 5) (q0 := 0) rfl rfl) rfl hl.1 rfl (Nat.le_of_ble_eq_true rfl) ⟨Nat.zero_le _, Nat.zero_le _⟩ dX5_doBounds_26 (fun H locs hW => ?_)
  refine lv_iload hx hb dX5_doBounds_29 (lv_at hl 0 rfl) ?_
  exact hQ _ _ _ _ _ _ hW dX5_doBounds_31 (by subst hz_7; subst hz_5; subst hz_3; subst hz_1; rw [m_X5_doBounds_r]) (by subst hz_7; subst hz_5; subst hz_3; subst hz_1; rw [m_X5_doBounds_f])
theorem AG_doBounds {f : Nat → Int32} {q : Nat} {c1 w1 : Int32} : AG f (m_X5_doBounds_f f q c1 w1) := by
  rw [m_X5_doBounds_f]
  exact AG_lays (AG_lays (AG_lays (AG.rf f)))
def m_X5_reason_r (f : Nat → Int32) (q : Nat) : Int32 := if (m_X5_placeInRow_r f q) = (-6) then (if (m_X5_get_r f q 3) = nI 1 then nI 2 else if (m_X5_oldest_r f q) = (-6) then nI 3 else if (m_X5_get_r f q 2) ≤ (m_X5_ring_r f q) then nI 0 else if (m_X5_get_r f q 1) ≤ (f 4) - (m_X5_frameAt_r f (tn (m_X5_oldest_r f q)) 1) then nI 0 else nI 4) else nI 1
set_option maxHeartbeats 4000000 in
set_option maxRecDepth 100000 in
theorem c_X5_reason (l : Launch) (D : va_G) (k : Nat → ClassId) (a : Nat → Nat) (z : Nat → Int32) (f : Nat → Int32) (kp : Nat → Int32) (hi : Nat → Int32) (sl : Nat → Int32) (sv : Nat → Int32) (tx : Nat → Int32) (td : Nat → Int32) (q : Nat) (hf : WF f) (hq : q < 3) : mI l yX5_reason (wsY yX5_reason cX5_reason 3 (some .int)) 3 D k [.ref (a 0), .int (nI q)] (refW k a z f kp hi sl sv tx td) (refW k a z f kp hi sl sv tx td) (m_X5_reason_r f q) := by
  refine mI_intro rfl (Nat.le_of_ble_eq_true rfl) (Or.inl rfl) ?_
  intro p e s m args below meth c A Q ls X hW hl hQ
  have hx := X.hx
  have hb := X.hb
  have hl : lv_has ls 3 [(0, .ref (a 0)), (1, .int (nI q))] := hl
  have hq_1 := hf.1.2
  have hq_2 := hf.2.1.2
  have hq_3 := hf.2.2.1.2
  refine lv_aload_n hx hb dX5_reason_0 rfl (lv_at hl 0 rfl) ?_
  refine lv_iload_n hx hb dX5_reason_1 rfl (lv_at hl 1 rfl) ?_
  obtain ⟨z_4, hz_4⟩ : ∃ zq, m_X5_placeInRow_r f q = zq := ⟨_, rfl⟩
  have hM_5 := (c_X5_placeInRow l D k a z f kp hi sl sv tx td q hf)
  rw [hz_4] at hM_5
  refine kVi (As := [.int (nI q)]) (rest := []) X hW hM_5 yw_X5_placeInRow lk_X5_74 ⟨Nat.le_of_ble_eq_true rfl, Nat.le_of_ble_eq_true rfl⟩ (wr := []) (List.Perm.refl _) (w' := refW k a z f kp hi sl sv tx td) (List.Perm.refl _) (k_rcv X hW (ci := 5) (q0 := 0) rfl rfl) rfl hl.1 rfl (Nat.le_of_ble_eq_true rfl) ⟨Nat.zero_le _, Nat.zero_le _⟩ dX5_reason_2 (fun H locs hW => ?_)
  refine lv_bipush (v := (-6)) hx hb dX5_reason_5 (by decide +kernel) ?_
  refine lv_icmp_eq (tgt := 12) hx hb dX5_reason_7 (by decide) (fun c_6 => ?_) (fun c_6 => ?_)
  · refine lv_aload_n hx hb dX5_reason_12 rfl (lv_at hl 0 rfl) ?_
    refine lv_iload_n hx hb dX5_reason_13 rfl (lv_at hl 1 rfl) ?_
    refine lv_iconst (v := nI 3) hx hb dX5_reason_14 (by decide +kernel) ?_
    obtain ⟨z_7, hz_7⟩ : ∃ zq, m_X5_get_r f q 3 = zq := ⟨_, rfl⟩
    have hM_8 := (c_X5_get l D k a z f kp hi sl sv tx td q 3 (by first | decide | omega) (by first | decide | omega))
    rw [hz_7] at hM_8
    refine kVi (As := [.int (nI q), .int (nI 3)]) (rest := []) X hW hM_8 yw_X5_get lk_X5_53 ⟨Nat.le_of_ble_eq_true rfl, Nat.le_of_ble_eq_true rfl⟩ (wr := []) (List.Perm.refl _) (w' := refW k a z f kp hi sl sv tx td) (List.Perm.refl _) (k_rcv X hW (ci := 5) (q0 := 0) rfl rfl) rfl hl.1 rfl (Nat.le_of_ble_eq_true rfl) ⟨Nat.zero_le _, Nat.zero_le _⟩ dX5_reason_15 (fun H locs hW => ?_)
    refine lv_iconst (v := nI 1) hx hb dX5_reason_18 (by decide +kernel) ?_
    refine lv_icmp_ne (tgt := 24) hx hb dX5_reason_19 (by decide) (fun c_9 => ?_) (fun c_9 => ?_)
    · refine lv_aload_n hx hb dX5_reason_24 rfl (lv_at hl 0 rfl) ?_
      refine lv_iload_n hx hb dX5_reason_25 rfl (lv_at hl 1 rfl) ?_
      obtain ⟨z_10, hz_10⟩ : ∃ zq, m_X5_oldest_r f q = zq := ⟨_, rfl⟩
      have hM_11 := (c_X5_oldest l D k a z f kp hi sl sv tx td q hf)
      rw [hz_10] at hM_11
      refine kVi (As := [.int (nI q)]) (rest := []) X hW hM_11 yw_X5_oldest lk_X5_63 ⟨Nat.le_of_ble_eq_true rfl, Nat.le_of_ble_eq_true rfl⟩ (wr := []) (List.Perm.refl _) (w' := refW k a z f kp hi sl sv tx td) (List.Perm.refl _) (k_rcv X hW (ci := 5) (q0 := 0) rfl rfl) rfl hl.1 rfl (Nat.le_of_ble_eq_true rfl) ⟨Nat.zero_le _, Nat.zero_le _⟩ dX5_reason_26 (fun H locs hW => ?_)
      refine lv_istore_n (lv' := [(2, .int z_10), (0, .ref (a 0)), (1, .int (nI q))]) hx hb dX5_reason_29 rfl hl (by decide) rfl (fun ls hl => ?_)
      refine lv_iload_n hx hb dX5_reason_30 rfl (lv_at hl 0 rfl) ?_
      refine lv_bipush (v := (-6)) hx hb dX5_reason_31 (by decide +kernel) ?_
      refine lv_icmp_ne (tgt := 38) hx hb dX5_reason_33 (by decide) (fun c_12 => ?_) (fun c_12 => ?_)
      · obtain ⟨hs_13, ht_13⟩ : z_10 = nI (tn z_10) ∧ tn z_10 < tn (f 5) := by rw [← hz_10]; exact oldest_n hf (by rw [hz_10]; exact c_12)
        refine lv_aload_n hx hb dX5_reason_38 rfl (lv_at hl 1 rfl) ?_
        refine lv_iload_n hx hb dX5_reason_39 rfl (lv_at hl 2 rfl) ?_
        obtain ⟨z_14, hz_14⟩ : ∃ zq, m_X5_ring_r f q = zq := ⟨_, rfl⟩
        have hM_15 := (c_X5_ring l D k a z f kp hi sl sv tx td q hf)
        rw [hz_14] at hM_15
        refine kVi (As := [.int (nI q)]) (rest := []) X hW hM_15 yw_X5_ring lk_X5_56 ⟨Nat.le_of_ble_eq_true rfl, Nat.le_of_ble_eq_true rfl⟩ (wr := []) (List.Perm.refl _) (w' := refW k a z f kp hi sl sv tx td) (List.Perm.refl _) (k_rcv X hW (ci := 5) (q0 := 0) rfl rfl) rfl hl.1 rfl (Nat.le_of_ble_eq_true rfl) ⟨Nat.zero_le _, Nat.zero_le _⟩ dX5_reason_40 (fun H locs hW => ?_)
        refine lv_aload_n hx hb dX5_reason_43 rfl (lv_at hl 1 rfl) ?_
        refine lv_iload_n hx hb dX5_reason_44 rfl (lv_at hl 2 rfl) ?_
        refine lv_iconst (v := nI 2) hx hb dX5_reason_45 (by decide +kernel) ?_
        obtain ⟨z_16, hz_16⟩ : ∃ zq, m_X5_get_r f q 2 = zq := ⟨_, rfl⟩
        have hM_17 := (c_X5_get l D k a z f kp hi sl sv tx td q 2 (by first | decide | omega) (by first | decide | omega))
        rw [hz_16] at hM_17
        refine kVi (As := [.int (nI q), .int (nI 2)]) (rest := [.int z_14]) X hW hM_17 yw_X5_get lk_X5_53 ⟨Nat.le_of_ble_eq_true rfl, Nat.le_of_ble_eq_true rfl⟩ (wr := []) (List.Perm.refl _) (w' := refW k a z f kp hi sl sv tx td) (List.Perm.refl _) (k_rcv X hW (ci := 5) (q0 := 0) rfl rfl) rfl hl.1 rfl (Nat.le_of_ble_eq_true rfl) ⟨Nat.zero_le _, Nat.zero_le _⟩ dX5_reason_46 (fun H locs hW => ?_)
        refine lv_icmp_ge (tgt := 78) hx hb dX5_reason_49 (by decide) (fun c_18 => ?_) (fun c_18 => ?_)
        · refine lv_iconst (v := nI 0) hx hb dX5_reason_78 (by decide +kernel) ?_
          exact hQ _ _ _ _ _ _ hW dX5_reason_79 (by subst hz_16; subst hz_14; subst hz_10; subst hz_7; subst hz_4; rw [m_X5_reason_r, if_pos c_6, if_neg c_9, if_neg c_12, if_pos c_18]) rfl
        · refine lv_aload_n hx hb dX5_reason_52 rfl (lv_at hl 1 rfl) ?_
          refine k_get X hW inG5 rfl 0 (by decide) fl_X5_7 rfl 0 rfl (v := .ref (a 1)) rfl dX5_reason_53 ?_
          refine lv_iconst (v := nI 4) hx hb dX5_reason_56 (by decide +kernel) ?_
          refine k_iald X hW 1 rfl (j := 4) (v := f 4) rfl (by decide) (by decide) rfl dX5_reason_57 ?_
          refine lv_aload_n hx hb dX5_reason_58 rfl (lv_at hl 1 rfl) ?_
          refine lv_iload_n hx hb dX5_reason_59 rfl (lv_at hl 0 rfl) ?_
          refine k_top (y := nI (tn z_10)) (hs_13) ?_
          refine lv_iconst (v := nI 1) hx hb dX5_reason_60 (by decide +kernel) ?_
          obtain ⟨z_19, hz_19⟩ : ∃ zq, m_X5_frameAt_r f (tn z_10) 1 = zq := ⟨_, rfl⟩
          have hM_20 := (c_X5_frameAt l D k a z f kp hi sl sv tx td (tn z_10) 1 (by first | decide | omega) (by first | decide | omega))
          rw [hz_19] at hM_20
          refine kVi (As := [.int (nI (tn z_10)), .int (nI 1)]) (rest := [.int (f 4)]) X hW hM_20 yw_X5_frameAt lk_X5_45 ⟨Nat.le_of_ble_eq_true rfl, Nat.le_of_ble_eq_true rfl⟩ (wr := []) (List.Perm.refl _) (w' := refW k a z f kp hi sl sv tx td) (List.Perm.refl _) (k_rcv X hW (ci := 5) (q0 := 0) rfl rfl) rfl hl.1 rfl (Nat.le_of_ble_eq_true rfl) ⟨Nat.zero_le _, Nat.zero_le _⟩ dX5_reason_61 (fun H locs hW => ?_)
          refine lv_isub hx hb dX5_reason_64 ?_
          refine lv_aload_n hx hb dX5_reason_65 rfl (lv_at hl 1 rfl) ?_
          refine lv_iload_n hx hb dX5_reason_66 rfl (lv_at hl 2 rfl) ?_
          refine lv_iconst (v := nI 1) hx hb dX5_reason_67 (by decide +kernel) ?_
          obtain ⟨z_21, hz_21⟩ : ∃ zq, m_X5_get_r f q 1 = zq := ⟨_, rfl⟩
          have hM_22 := (c_X5_get l D k a z f kp hi sl sv tx td q 1 (by first | decide | omega) (by first | decide | omega))
          rw [hz_21] at hM_22
          refine kVi (As := [.int (nI q), .int (nI 1)]) (rest := [.int ((f 4) - z_19)]) X hW hM_22 yw_X5_get lk_X5_53 ⟨Nat.le_of_ble_eq_true rfl, Nat.le_of_ble_eq_true rfl⟩ (wr := []) (List.Perm.refl _) (w' := refW k a z f kp hi sl sv tx td) (List.Perm.refl _) (k_rcv X hW (ci := 5) (q0 := 0) rfl rfl) rfl hl.1 rfl (Nat.le_of_ble_eq_true rfl) ⟨Nat.zero_le _, Nat.zero_le _⟩ dX5_reason_68 (fun H locs hW => ?_)
          refine lv_icmp_ge (tgt := 78) hx hb dX5_reason_71 (by decide) (fun c_23 => ?_) (fun c_23 => ?_)
          · refine lv_iconst (v := nI 0) hx hb dX5_reason_78 (by decide +kernel) ?_
            exact hQ _ _ _ _ _ _ hW dX5_reason_79 (by subst hz_21; subst hz_19; subst hz_16; subst hz_14; subst hz_10; subst hz_7; subst hz_4; rw [m_X5_reason_r, if_pos c_6, if_neg c_9, if_neg c_12, if_neg c_18, if_pos c_23]) rfl
          · refine lv_iconst (v := nI 4) hx hb dX5_reason_74 (by decide +kernel) ?_
            refine lv_goto (tgt := 79) hx hb dX5_reason_75 (by decide) ?_
            exact hQ _ _ _ _ _ _ hW dX5_reason_79 (by subst hz_21; subst hz_19; subst hz_16; subst hz_14; subst hz_10; subst hz_7; subst hz_4; rw [m_X5_reason_r, if_pos c_6, if_neg c_9, if_neg c_12, if_neg c_18, if_neg c_23]) rfl
      · refine lv_iconst (v := nI 3) hx hb dX5_reason_36 (by decide +kernel) ?_
        exact hQ _ _ _ _ _ _ hW dX5_reason_37 (by subst hz_10; subst hz_7; subst hz_4; rw [m_X5_reason_r, if_pos c_6, if_neg c_9, if_pos c_12]) rfl
    · refine lv_iconst (v := nI 2) hx hb dX5_reason_22 (by decide +kernel) ?_
      exact hQ _ _ _ _ _ _ hW dX5_reason_23 (by subst hz_7; subst hz_4; rw [m_X5_reason_r, if_pos c_6, if_pos c_9]) rfl
  · refine lv_iconst (v := nI 1) hx hb dX5_reason_10 (by decide +kernel) ?_
    exact hQ _ _ _ _ _ _ hW dX5_reason_11 (by subst hz_4; rw [m_X5_reason_r, if_neg c_6]) rfl
