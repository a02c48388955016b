def lp_polls (q : Nat) : Nat → (Nat → Int32) → (Nat → Int32)
  | 0, f => f
  | r + 1, f => if m_X5_oldest_r f q = (-6) then f else lp_polls q r (m_X5_takes_f f (tn (m_X5_oldest_r f q)) q)
def lp_pollsN (q : Nat) : Nat → (Nat → Int32) → Nat
  | 0, _ => 0
  | r + 1, f => if m_X5_oldest_r f q = (-6) then 0 else 1 + lp_pollsN q r (m_X5_takes_f f (tn (m_X5_oldest_r f q)) q)
def lp_shift : Nat → Nat → (Nat → Int32) → (Nat → Int32)
  | 0, _, f => f
  | r + 1, k, f => lp_shift r (k + 1) (upd f (7 + k - 1) (f (7 + k)))
theorem AG_polls (q : Nat) : ∀ (r : Nat) (f : Nat → Int32), AG f (lp_polls q r f) := by
  intro r
  induction r with
  | zero => intro f; exact AG.rf f
  | succ r ih =>
    intro f
    rw [lp_polls]
    split
    · exact AG.rf f
    · exact AG_takes.tr (ih _)
def m_pollsrest_f2 (f2 : Nat → Int32) (n : Nat) (qq : Nat) (L : Nat) : Nat → Int32 := if f2 1 ≤ nI n then upd f2 ((7 + L) - 1) (nI qq) else (m_X5_leaves_f (upd (upd f2 6 (nI (L - 1))) (7 + (L - 1)) (nI 0)) qq)
def m_X5_polls_f (f : Nat → Int32) : Nat → Int32 := m_pollsrest_f2 (lp_shift (tn (f 6) - 1) 1 (lp_polls (tn (f 7)) (tn (f 1)) f)) (0 + lp_pollsN (tn (f 7)) (tn (f 1)) f) (tn (f 7)) (tn (f 6))
set_option maxHeartbeats 4000000 in
set_option maxRecDepth 100000 in
theorem c_X5_polls (l : Launch) (D : va_G) (k : Nat → ClassId) (a : Nat → Nat) (z : Nat → Int32) (f : Nat → Int32) (kp : Nat → Int32) (hi : Nat → Int32) (sl : Nat → Int32) (sv : Nat → Int32) (tx : Nat → Int32) (td : Nat → Int32)  (hf : WF f) (hL : 0 < tn (f 6)) : mV l yX5_polls (wsY yX5_polls cX5_polls 5 none) 4 D k [.ref (a 0)] (refW k a z f kp hi sl sv tx td) (refW k a z (m_X5_polls_f f) kp hi sl sv tx td) := by
  refine mV_intro rfl (Nat.le_of_ble_eq_true rfl) ?_
  intro p e s m args below meth c A Q ls X hW hl hQ
  have hx := X.hx
  have hb := X.hb
  have hl : lv_has ls 5 [(0, .ref (a 0))] := hl
  have hB := hf.2.2.1.1
  have hQ7 := (hf.2.2.2 0 (by decide)).2
  have hQ7 : tn (f 7) < 3 := hQ7
  have hq_1 := hf.1.2
  have hq_2 := hf.2.1.2
  have hq_3 := hf.2.2.1.2
  refine lv_aload_n hx hb dX5_polls_0 rfl (lv_at hl 0 rfl) ?_
  refine k_get X hW inG5 rfl 0 (by decide) fl_X5_7 rfl 0 rfl (v := .ref (a 1)) rfl dX5_polls_1 ?_
  refine lv_bipush (v := nI 7) hx hb dX5_polls_4 (by decide +kernel) ?_
  refine k_iald X hW 1 rfl (j := 7) (v := f 7) rfl (by decide) (by decide) rfl dX5_polls_6 ?_
  refine k_top (y := nI (tn (f 7))) ((hf.2.2.2 0 (by decide)).1) ?_
  refine lv_istore_n (lv' := [(1, .int (nI (tn (f 7)))), (0, .ref (a 0))]) hx hb dX5_polls_7 rfl hl (by decide) rfl (fun ls hl => ?_)
  refine lv_iconst (v := nI 0) hx hb dX5_polls_8 (by decide +kernel) ?_
  refine lv_istore_n (lv' := [(2, .int (nI 0)), (1, .int (nI (tn (f 7)))), (0, .ref (a 0))]) hx hb dX5_polls_9 rfl hl (by decide) rfl (fun ls hl => ?_)
  refine lv_aload_n hx hb dX5_polls_10 rfl (lv_at hl 2 rfl) ?_
  refine lv_iload_n hx hb dX5_polls_11 rfl (lv_at hl 1 rfl) ?_
  obtain ⟨z_4, hz_4⟩ : ∃ zq, m_X5_oldest_r f (tn (f 7)) = zq := ⟨_, rfl⟩
  have hM_5 := (c_X5_oldest l D k a z f kp hi sl sv tx td (tn (f 7)) hf)
  rw [hz_4] at hM_5
  refine kVi (As := [.int (nI (tn (f 7)))]) (rest := []) X hW hM_5 yw_X5_oldest lk_X5_63 ⟨Nat.le_of_ble_eq_true rfl, Nat.le_of_ble_eq_true rfl⟩ (wr := []) (List.Perm.refl _) (w' := refW k a z f kp hi sl sv tx td) (List.Perm.refl _) (k_rcv X hW (ci := 5) (q0 := 0) rfl rfl) rfl hl.1 rfl (Nat.le_of_ble_eq_true rfl) ⟨Nat.zero_le _, Nat.zero_le _⟩ dX5_polls_12 (fun H locs hW => ?_)
  refine lv_istore_n (lv' := [(3, .int z_4), (2, .int (nI 0)), (1, .int (nI (tn (f 7)))), (0, .ref (a 0))]) hx hb dX5_polls_15 rfl hl (by decide) rfl (fun ls hl => ?_)
  have ky : ∀ (f2 : Nat → Int32) (n : Nat) (H : Heap) (locs : List Loc) (ls : Array Slot), f2 6 = nI (tn (f 6)) → f2 1 = f 1 → m_X5_polls_f f = m_pollsrest_f2 f2 n (tn (f 7)) (tn (f 6)) → KW D A s (refW k a z f2 kp hi sl sv tx td) H locs → lv_has ls 5 [(0, .ref (a 0)), (1, .int (nI (tn (f 7)))), (2, .int (nI n))] → W p l e (rmD 4) s m args below meth c H locs 0 0 Q (F0 m 93 ls []) := by
    intro f2 n H locs ls h6 h1 hu hW hl
    generalize hLe : tn (f 6) = L at *
    generalize hQe : tn (f 7) = qq at *
    refine lv_iload_n hx hb dX5_polls_93 rfl (lv_at hl 2 rfl) ?_
    refine lv_aload_n hx hb dX5_polls_94 rfl (lv_at hl 0 rfl) ?_
    refine k_get X hW inG5 rfl 0 (by decide) fl_X5_7 rfl 0 rfl (v := .ref (a 1)) rfl dX5_polls_95 ?_
    refine lv_iconst (v := nI 1) hx hb dX5_polls_98 (by decide +kernel) ?_
    refine k_iald X hW 1 rfl (j := 1) (v := f2 1) rfl (by decide) (by decide) rfl dX5_polls_99 ?_
    refine lv_icmp_ge (tgt := 138) hx hb dX5_polls_100 (by decide) (fun c_6 => ?_) (fun c_6 => ?_)
    · refine lv_aload_n hx hb dX5_polls_138 rfl (lv_at hl 0 rfl) ?_
      refine k_get X hW inG5 rfl 0 (by decide) fl_X5_7 rfl 0 rfl (v := .ref (a 1)) rfl dX5_polls_139 ?_
      refine lv_bipush (v := nI 7) hx hb dX5_polls_142 (by decide +kernel) ?_
      refine lv_aload_n hx hb dX5_polls_144 rfl (lv_at hl 0 rfl) ?_
      refine k_get X hW inG5 rfl 0 (by decide) fl_X5_7 rfl 0 rfl (v := .ref (a 1)) rfl dX5_polls_145 ?_
      refine lv_bipush (v := nI 6) hx hb dX5_polls_148 (by decide +kernel) ?_
      refine k_iald X hW 1 rfl (j := 6) (v := f2 6) rfl (by decide) (by decide) rfl dX5_polls_150 ?_
      refine k_top (y := nI L) (h6) ?_
      refine lv_iadd hx hb dX5_polls_151 ?_
      refine k_top (y := nI (7 + L)) (nI_add _ _) ?_
      refine lv_iconst (v := nI 1) hx hb dX5_polls_152 (by decide +kernel) ?_
      refine lv_isub hx hb dX5_polls_153 ?_
      refine k_top (y := nI ((7 + L) - 1)) (pk_sub (by omega)) ?_
      refine lv_iload_n hx hb dX5_polls_154 rfl (lv_at hl 1 rfl) ?_
      refine k_iast X hW 1 rfl (j := ((7 + L) - 1)) rfl (by omega) (by decide) dX5_polls_155 (w' := refW k a z (upd f2 ((7 + L) - 1) (nI qq)) kp hi sl sv tx td) rfl (fun H locs hW => ?_)
      exact hQ _ _ _ _ _ hW dX5_polls_156 (by rw [hu, m_pollsrest_f2, if_pos c_6])
    · refine lv_aload_n hx hb dX5_polls_103 rfl (lv_at hl 0 rfl) ?_
      refine k_get X hW inG5 rfl 0 (by decide) fl_X5_7 rfl 0 rfl (v := .ref (a 1)) rfl dX5_polls_104 ?_
      refine lv_bipush (v := nI 6) hx hb dX5_polls_107 (by decide +kernel) ?_
      refine lv_dup2_11 hx hb dX5_polls_109 rfl rfl ?_
      refine k_iald X hW 1 rfl (j := 6) (v := f2 6) rfl (by decide) (by decide) rfl dX5_polls_110 ?_
      refine k_top (y := nI L) (h6) ?_
      refine lv_iconst (v := nI 1) hx hb dX5_polls_111 (by decide +kernel) ?_
      refine lv_isub hx hb dX5_polls_112 ?_
      refine k_top (y := nI (L - 1)) (pk_sub (by omega)) ?_
      refine k_iast X hW 1 rfl (j := 6) rfl (by decide) (by decide) dX5_polls_113 (w' := refW k a z (upd f2 6 (nI (L - 1))) kp hi sl sv tx td) rfl (fun H locs hW => ?_)
      refine lv_aload_n hx hb dX5_polls_114 rfl (lv_at hl 0 rfl) ?_
      refine k_get X hW inG5 rfl 0 (by decide) fl_X5_7 rfl 0 rfl (v := .ref (a 1)) rfl dX5_polls_115 ?_
      refine lv_bipush (v := nI 7) hx hb dX5_polls_118 (by decide +kernel) ?_
      refine lv_aload_n hx hb dX5_polls_120 rfl (lv_at hl 0 rfl) ?_
      refine k_get X hW inG5 rfl 0 (by decide) fl_X5_7 rfl 0 rfl (v := .ref (a 1)) rfl dX5_polls_121 ?_
      refine lv_bipush (v := nI 6) hx hb dX5_polls_124 (by decide +kernel) ?_
      refine k_iald X hW 1 rfl (j := 6) (v := nI (L - 1)) rfl (by decide) (by decide) rfl dX5_polls_126 ?_
      refine lv_iadd hx hb dX5_polls_127 ?_
      refine k_top (y := nI (7 + (L - 1))) (nI_add _ _) ?_
      refine lv_iconst (v := nI 0) hx hb dX5_polls_128 (by decide +kernel) ?_
      refine k_iast X hW 1 rfl (j := (7 + (L - 1))) rfl (by omega) (by decide) dX5_polls_129 (w' := refW k a z (upd (upd f2 6 (nI (L - 1))) (7 + (L - 1)) (nI 0)) kp hi sl sv tx td) rfl (fun H locs hW => ?_)
      refine lv_aload_n hx hb dX5_polls_130 rfl (lv_at hl 0 rfl) ?_
      refine lv_iload_n hx hb dX5_polls_131 rfl (lv_at hl 1 rfl) ?_
      obtain ⟨z_7, hz_7⟩ : ∃ zq, m_X5_leaves_f (upd (upd f2 6 (nI (L - 1))) (7 + (L - 1)) (nI 0)) qq = zq := ⟨_, rfl⟩
      have hM_8 := (c_X5_leaves l D k a z (upd (upd f2 6 (nI (L - 1))) (7 + (L - 1)) (nI 0)) kp hi sl sv tx td qq (by omega))
      rw [hz_7] at hM_8
      refine kVv (As := [.int (nI qq)]) (rest := []) X hW hM_8 yw_X5_leaves lk_X5_70 ⟨Nat.le_of_ble_eq_true rfl, Nat.le_of_ble_eq_true rfl⟩ (wr := []) (List.Perm.refl _) (w' := refW k a z z_7 kp hi sl sv tx td) (List.Perm.refl _) (k_rcv X hW (ci := 5) (q0 := 0) rfl rfl) rfl hl.1 rfl (Nat.le_of_ble_eq_true rfl) ⟨Nat.zero_le _, Nat.zero_le _⟩ dX5_polls_132 (fun H locs hW => ?_)
      refine lv_goto (tgt := 156) hx hb dX5_polls_135 (by decide) ?_
      exact hQ _ _ _ _ _ hW dX5_polls_156 (by subst hz_7; rw [hu, m_pollsrest_f2, if_neg c_6])
  have kx : ∀ (f1 : Nat → Int32) (n : Nat) (H : Heap) (locs : List Loc) (ls : Array Slot), f1 6 = nI (tn (f 6)) → f1 1 = f 1 → m_X5_polls_f f = m_pollsrest_f2 (lp_shift (tn (f 6) - 1) 1 f1) n (tn (f 7)) (tn (f 6)) → KW D A s (refW k a z f1 kp hi sl sv tx td) H locs → lv_has ls 5 [(0, .ref (a 0)), (1, .int (nI (tn (f 7)))), (2, .int (nI n))] → W p l e (rmD 4) s m args below meth c H locs 0 0 Q (F0 m 50 ls []) := by
    intro f1 n H locs ls h6 h1 hu hW hl
    refine lv_iconst (v := nI 1) hx hb dX5_polls_50 (by decide +kernel) ?_
    refine lv_istore (lv' := [(4, .int (nI 1)), (0, .ref (a 0)), (1, .int (nI (tn (f 7)))), (2, .int (nI n))]) hx hb dX5_polls_51 hl (by decide) rfl (fun ls hl => ?_)
    have lq : ∀ (r : Nat) (k' : Nat) (f2 : Nat → Int32) (H : Heap) (locs : List Loc) (ls : Array Slot), 1 ≤ k' ∧ k' + r = tn (f 6) → f2 6 = nI (tn (f 6)) → f2 1 = f 1 → m_X5_polls_f f = m_pollsrest_f2 (lp_shift r k' f2) n (tn (f 7)) (tn (f 6)) → KW D A s (refW k a z f2 kp hi sl sv tx td) H locs → lv_has ls 5 [(4, .int (nI k')), (0, .ref (a 0)), (1, .int (nI (tn (f 7)))), (2, .int (nI n))] → W p l e (rmD 4) s m args below meth c H locs 0 0 Q (F0 m 53 ls []) := by
      intro r
      induction r with
      | zero =>
        intro k' f2 H locs ls hir h6' h1' hu' hW hl
        refine lv_iload hx hb dX5_polls_53 (lv_at hl 0 rfl) ?_
        refine lv_aload_n hx hb dX5_polls_55 rfl (lv_at hl 1 rfl) ?_
        refine k_get X hW inG5 rfl 0 (by decide) fl_X5_7 rfl 0 rfl (v := .ref (a 1)) rfl dX5_polls_56 ?_
        refine lv_bipush (v := nI 6) hx hb dX5_polls_59 (by decide +kernel) ?_
        refine k_iald X hW 1 rfl (j := 6) (v := f2 6) rfl (by decide) (by decide) rfl dX5_polls_61 ?_
        refine k_top (y := nI (tn (f 6))) (h6') ?_
        refine lv_icmp_ge (tgt := 93) hx hb dX5_polls_62 (by decide) (fun c_9 => ?_) (fun c_9 => ?_)
        · have c_9 : tn (f 6) ≤ k' := (nI_leI (a := tn (f 6)) (b := k') (by omega) (by omega)).mp c_9
          exact ky f2 n _ _ _ h6' h1' (by rw [hu', lp_shift]) hW (lv_sub hl [1, 2, 3] rfl)
        · have c_9 : ¬ (tn (f 6) ≤ k') := fun h => c_9 ((nI_leI (a := tn (f 6)) (b := k') (by omega) (by omega)).mpr h)
          omega
      | succ r ih =>
        intro k' f2 H locs ls hir h6' h1' hu' hW hl
        refine lv_iload hx hb dX5_polls_53 (lv_at hl 0 rfl) ?_
        refine lv_aload_n hx hb dX5_polls_55 rfl (lv_at hl 1 rfl) ?_
        refine k_get X hW inG5 rfl 0 (by decide) fl_X5_7 rfl 0 rfl (v := .ref (a 1)) rfl dX5_polls_56 ?_
        refine lv_bipush (v := nI 6) hx hb dX5_polls_59 (by decide +kernel) ?_
        refine k_iald X hW 1 rfl (j := 6) (v := f2 6) rfl (by decide) (by decide) rfl dX5_polls_61 ?_
        refine k_top (y := nI (tn (f 6))) (h6') ?_
        refine lv_icmp_ge (tgt := 93) hx hb dX5_polls_62 (by decide) (fun c_10 => ?_) (fun c_10 => ?_)
        · have c_10 : tn (f 6) ≤ k' := (nI_leI (a := tn (f 6)) (b := k') (by omega) (by omega)).mp c_10
          omega
        · have c_10 : ¬ (tn (f 6) ≤ k') := fun h => c_10 ((nI_leI (a := tn (f 6)) (b := k') (by omega) (by omega)).mpr h)
          refine lv_aload_n hx hb dX5_polls_65 rfl (lv_at hl 1 rfl) ?_
          refine k_get X hW inG5 rfl 0 (by decide) fl_X5_7 rfl 0 rfl (v := .ref (a 1)) rfl dX5_polls_66 ?_
          refine lv_bipush (v := nI 7) hx hb dX5_polls_69 (by decide +kernel) ?_
          refine lv_iload hx hb dX5_polls_71 (lv_at hl 0 rfl) ?_
          refine lv_iadd hx hb dX5_polls_73 ?_
          refine k_top (y := nI (7 + k')) (nI_add _ _) ?_
          refine lv_iconst (v := nI 1) hx hb dX5_polls_74 (by decide +kernel) ?_
          refine lv_isub hx hb dX5_polls_75 ?_
          refine k_top (y := nI ((7 + k') - 1)) (pk_sub (by omega)) ?_
          refine lv_aload_n hx hb dX5_polls_76 rfl (lv_at hl 1 rfl) ?_
          refine k_get X hW inG5 rfl 0 (by decide) fl_X5_7 rfl 0 rfl (v := .ref (a 1)) rfl dX5_polls_77 ?_
          refine lv_bipush (v := nI 7) hx hb dX5_polls_80 (by decide +kernel) ?_
          refine lv_iload hx hb dX5_polls_82 (lv_at hl 0 rfl) ?_
          refine lv_iadd hx hb dX5_polls_84 ?_
          refine k_top (y := nI (7 + k')) (nI_add _ _) ?_
          refine k_iald X hW 1 rfl (j := (7 + k')) (v := f2 (7 + k')) rfl (by omega) (by decide) rfl dX5_polls_85 ?_
          refine k_iast X hW 1 rfl (j := ((7 + k') - 1)) rfl (by omega) (by decide) dX5_polls_86 (w' := refW k a z (upd f2 ((7 + k') - 1) (f2 (7 + k'))) kp hi sl sv tx td) rfl (fun H locs hW => ?_)
          refine lv_iinc (v := nI (k' + 1)) (lv' := [(4, .int (nI (k' + 1))), (0, .ref (a 0)), (1, .int (nI (tn (f 7)))), (2, .int (nI n))]) hx hb dX5_polls_87 hl (k := 0) rfl (k_inc _) (by decide) rfl (fun ls hl => ?_)
          refine lv_goto (tgt := 53) hx hb dX5_polls_90 (by decide) ?_
          exact ih (k' + 1) _ _ _ _ (by omega) ((pk_un (by omega)).trans h6') ((pk_un (by omega)).trans h1') (by rw [hu', lp_shift]) hW (lv_sub hl [0, 1, 2, 3] rfl)
    exact lq (tn (f 6) - 1) 1 f1 _ _ _ (by omega) h6 h1 hu hW (lv_sub hl [0, 1, 2, 3] rfl)
  have lp : ∀ (r : Nat) (f' : Nat → Int32) (n : Nat) (fr : Int32), AG f f' → m_X5_oldest_r f' (tn (f 7)) = fr → ∀ (H : Heap) (locs : List Loc) (ls : Array Slot), n + r = tn (f 1) → (∀ x y, x = lp_polls (tn (f 7)) r f' → y = n + lp_pollsN (tn (f 7)) r f' → m_X5_polls_f f = m_pollsrest_f2 (lp_shift (tn (f 6) - 1) 1 x) y (tn (f 7)) (tn (f 6))) → KW D A s (refW k a z f' kp hi sl sv tx td) H locs → lv_has ls 5 [(2, .int (nI n)), (3, .int fr), (0, .ref (a 0)), (1, .int (nI (tn (f 7))))] → W p l e (rmD 4) s m args below meth c H locs 0 0 Q (F0 m 16 ls []) := by
    intro r
    induction r with
    | zero =>
      intro f' n fr ag hfr H locs ls hir hk hW hl
      have hq1 := hf.1.2
      refine lv_iload_n hx hb dX5_polls_16 rfl (lv_at hl 0 rfl) ?_
      refine lv_aload_n hx hb dX5_polls_17 rfl (lv_at hl 2 rfl) ?_
      refine k_get X hW inG5 rfl 0 (by decide) fl_X5_7 rfl 0 rfl (v := .ref (a 1)) rfl dX5_polls_18 ?_
      refine lv_iconst (v := nI 1) hx hb dX5_polls_21 (by decide +kernel) ?_
      refine k_iald X hW 1 rfl (j := 1) (v := f' 1) rfl (by decide) (by decide) rfl dX5_polls_22 ?_
      refine k_top (y := nI (tn (f 1))) ((ag 1 (by decide)).trans hB) ?_
      refine lv_icmp_ge (tgt := 50) hx hb dX5_polls_23 (by decide) (fun c_11 => ?_) (fun c_11 => ?_)
      · have c_11 : tn (f 1) ≤ n := (nI_leI (a := tn (f 1)) (b := n) (by omega) (by omega)).mp c_11
        exact kx f' n _ _ _ ((ag 6 (by decide)).trans hf.2.1.1) (ag 1 (by decide)) (hk f' n (rfl) (rfl)) hW (lv_sub hl [2, 3, 0] rfl)
      · have c_11 : ¬ (tn (f 1) ≤ n) := fun h => c_11 ((nI_leI (a := tn (f 1)) (b := n) (by omega) (by omega)).mpr h)
        omega
    | succ r ih =>
      intro f' n fr ag hfr H locs ls hir hk hW hl
      have hq1 := hf.1.2
      refine lv_iload_n hx hb dX5_polls_16 rfl (lv_at hl 0 rfl) ?_
      refine lv_aload_n hx hb dX5_polls_17 rfl (lv_at hl 2 rfl) ?_
      refine k_get X hW inG5 rfl 0 (by decide) fl_X5_7 rfl 0 rfl (v := .ref (a 1)) rfl dX5_polls_18 ?_
      refine lv_iconst (v := nI 1) hx hb dX5_polls_21 (by decide +kernel) ?_
      refine k_iald X hW 1 rfl (j := 1) (v := f' 1) rfl (by decide) (by decide) rfl dX5_polls_22 ?_
      refine k_top (y := nI (tn (f 1))) ((ag 1 (by decide)).trans hB) ?_
      refine lv_icmp_ge (tgt := 50) hx hb dX5_polls_23 (by decide) (fun c_12 => ?_) (fun c_12 => ?_)
      · have c_12 : tn (f 1) ≤ n := (nI_leI (a := tn (f 1)) (b := n) (by omega) (by omega)).mp c_12
        omega
      · have c_12 : ¬ (tn (f 1) ≤ n) := fun h => c_12 ((nI_leI (a := tn (f 1)) (b := n) (by omega) (by omega)).mpr h)
        refine lv_iload_n hx hb dX5_polls_26 rfl (lv_at hl 1 rfl) ?_
        refine lv_bipush (v := (-6)) hx hb dX5_polls_27 (by decide +kernel) ?_
        refine lv_icmp_eq (tgt := 50) hx hb dX5_polls_29 (by decide) (fun c_13 => ?_) (fun c_13 => ?_)
        · exact kx f' n _ _ _ ((ag 6 (by decide)).trans hf.2.1.1) (ag 1 (by decide)) (hk f' n (by rw [lp_polls, if_pos (by rw [hfr]; exact c_13)]) (by rw [lp_pollsN, if_pos (by rw [hfr]; exact c_13)]; rfl)) hW (lv_sub hl [2, 3, 0] rfl)
        · obtain ⟨hs_14, ht_14⟩ : fr = nI (tn fr) ∧ tn fr < tn (f' 5) := by subst hfr; exact oldest_n (WF_ag hf ag) c_13
          rw [ag 5 (by decide)] at ht_14
          refine lv_aload_n hx hb dX5_polls_32 rfl (lv_at hl 2 rfl) ?_
          refine lv_iload_n hx hb dX5_polls_33 rfl (lv_at hl 1 rfl) ?_
          refine k_top (y := nI (tn fr)) (hs_14) ?_
          refine lv_iload_n hx hb dX5_polls_34 rfl (lv_at hl 3 rfl) ?_
          obtain ⟨z_15, hz_15⟩ : ∃ zq, m_X5_takes_f f' (tn fr) (tn (f 7)) = zq := ⟨_, rfl⟩
          have hf_z_15 : WF z_15 := by rw [← hz_15]; exact WF_ag (WF_ag hf ag) AG_takes
          have hq_16 := hf_z_15.1.2
          have hq_17 := hf_z_15.2.1.2
          have hq_18 := hf_z_15.2.2.1.2
          have hM_19 := (c_X5_takes l D k a z f' kp hi sl sv tx td (tn fr) (tn (f 7)) (by omega) (by omega))
          rw [hz_15] at hM_19
          refine kVv (As := [.int (nI (tn fr)), .int (nI (tn (f 7)))]) (rest := []) X hW hM_19 yw_X5_takes lk_X5_66 ⟨Nat.le_of_ble_eq_true rfl, Nat.le_of_ble_eq_true rfl⟩ (wr := []) (List.Perm.refl _) (w' := refW k a z z_15 kp hi sl sv tx td) (List.Perm.refl _) (k_rcv X hW (ci := 5) (q0 := 0) rfl rfl) rfl hl.1 rfl (Nat.le_of_ble_eq_true rfl) ⟨Nat.zero_le _, Nat.zero_le _⟩ dX5_polls_35 (fun H locs hW => ?_)
          refine lv_iinc (v := nI (n + 1)) (lv' := [(2, .int (nI (n + 1))), (3, .int fr), (0, .ref (a 0)), (1, .int (nI (tn (f 7))))]) hx hb dX5_polls_38 hl (k := 0) rfl (k_inc _) (by decide) rfl (fun ls hl => ?_)
          refine lv_aload_n hx hb dX5_polls_41 rfl (lv_at hl 2 rfl) ?_
          refine lv_iload_n hx hb dX5_polls_42 rfl (lv_at hl 3 rfl) ?_
          obtain ⟨z_20, hz_20⟩ : ∃ zq, m_X5_oldest_r z_15 (tn (f 7)) = zq := ⟨_, rfl⟩
          have hM_21 := (c_X5_oldest l D k a z z_15 kp hi sl sv tx td (tn (f 7)) hf_z_15)
          rw [hz_20] at hM_21
          refine kVi (As := [.int (nI (tn (f 7)))]) (rest := []) X hW hM_21 yw_X5_oldest lk_X5_63 ⟨Nat.le_of_ble_eq_true rfl, Nat.le_of_ble_eq_true rfl⟩ (wr := []) (List.Perm.refl _) (w' := refW k a z z_15 kp hi sl sv tx td) (List.Perm.refl _) (k_rcv X hW (ci := 5) (q0 := 0) rfl rfl) rfl hl.1 rfl (Nat.le_of_ble_eq_true rfl) ⟨Nat.zero_le _, Nat.zero_le _⟩ dX5_polls_43 (fun H locs hW => ?_)
          refine lv_istore_n (lv' := [(3, .int z_20), (2, .int (nI (n + 1))), (0, .ref (a 0)), (1, .int (nI (tn (f 7))))]) hx hb dX5_polls_46 rfl hl (by decide) rfl (fun ls hl => ?_)
          refine lv_goto (tgt := 16) hx hb dX5_polls_47 (by decide) ?_
          subst hfr
          subst hz_20
          subst hz_15
          exact ih _ (n + 1) _ (ag.tr AG_takes) rfl _ _ _ (by omega) (fun x y hx hy => hk x y (by rw [hx, lp_polls, if_neg c_13]) (by rw [hy, lp_pollsN, if_neg c_13, Nat.add_assoc])) hW (lv_sub hl [1, 0, 2, 3] rfl)
  exact lp (tn (f 1)) f 0 _ (AG.rf f) hz_4 _ _ _ (by omega) (fun x y hx hy => by subst hx; subst hy; rfl) hW (lv_sub hl [1, 0, 3, 2] rfl)
