section
variable {k : Nat → ClassId} {B : Nat → Nat} {A : Nat → Nat → Nat} {V : Nat → CS} {nx sz : Int32} {sv z g : Nat → Int32} {i j : Nat} {u u' : CS}
/-- the probe, whatever it holds, and the card -/
theorem big_out10 : (bigW k B A (setC V 1 u) nx sz sv z g).Perm ((hdW k B A nx sz sv z g ++ cdsW k A V ((r11.erase 0).erase 1)) ++ (cardW k (A 1) u ++ cardW k (A 0) (V 0))) := (big_push2 (i := 1) (j := 0) (by decide) (by decide) (by decide)).symm
theorem big_in10 : ((hdW k B A nx sz sv z g ++ cdsW k A V ((r11.erase 0).erase 1)) ++ (cardW k (A 1) u ++ cardW k (A 0) (V 0))).Perm (bigW k B A (setC V 1 u) nx sz sv z g) := big_push2 (i := 1) (j := 0) (by decide) (by decide) (by decide)
end
theorem setC_self {V : Nat → CS} {i : Nat} : setC V i (V i) = V := by
  funext j
  show (if j = i then V i else V j) = V j
  split
  · rename_i h; rw [h]
  · rfl
def lp_tr (j gp : Nat) : Nat → CS → CS
  | 0, u => u
  | r + 1, u => lp_tr j gp r (lp_run gp (m_X0_receive_u u (nI j)))
def lp_te (j : Nat) : Nat → CS → CS
  | 0, u => u
  | r + 1, u => if u (6 + j) 5 ≤ 0 then u else lp_te j r (m_X0_tick_u u)
def tc_s (u p : CS) (j : Nat) (c1 : Int32) : CS := m_X0_changeBounds_u (m_X0_emptyLike_u p u) (nI j) c1 (u (6 + j) 1)
def m_X4_trialCost_u (u p : CS) (j : Nat) (c1 : Int32) (gp : Nat) : CS := lp_te j 1000 (lp_tr j gp 16 (tc_s u p j c1))
def tc_r (q : CS) : Int32 := m_X0_total_r q (nI 9) + q 1 3 * m_X0_total_r q (nI 6)
def m_X4_trialCost_r (u p : CS) (j : Nat) (c1 : Int32) (gp : Nat) : Int32 := tc_r (m_X4_trialCost_u u p j c1 gp)
theorem CM_tc_s {u p : CS} {j : Nat} {c1 : Int32} (h : CM u) : CM (tc_s u p j c1) := CM_X0_changeBounds (CM_X0_emptyLike h)
set_option maxHeartbeats 4000000 in
set_option maxRecDepth 100000 in
theorem c_X4_trialCost (l : Launch) (D : va_G) (k : Nat → ClassId) (B : Nat → Nat) (A : Nat → Nat → Nat) (V : Nat → CS) (nx sz : Int32) (sv z g : Nat → Int32) (pr : CS) (j : Nat) (c1 : Int32) (gp : Nat) (hj : j < 3) (hg : gp < 2 ^ 31) (hV : CM (V 0)) : mI l yX4_trialCost (wsY yX4_trialCost cX4_trialCost 5 (some .int)) 6 D k [.ref (B 0), .int (nI j), .int c1, .int (nI gp)] (bigW k B A (setC V 1 pr) nx sz sv z g) (bigW k B A (setC V 1 (m_X4_trialCost_u (V 0) pr j c1 gp)) nx sz sv z g) (m_X4_trialCost_r (V 0) pr j c1 gp) := by
  refine mI_intro rfl (Nat.le_of_ble_eq_true rfl) (Or.inl rfl) ?_
  intro p e s m args below meth c P Q ls X hW hl hQ
  have hx := X.hx
  have hb := X.hb
  have hl : lv_has ls 5 [(0, .ref (B 0)), (1, .int (nI j)), (2, .int c1), (3, .int (nI gp))] := hl
  refine lv_aload_n hx hb dX4_trialCost_0 rfl (lv_at hl 0 rfl) ?_
  refine k_get X hW inG4 rfl 1 (by decide) fl_X4_16 rfl 0 rfl (v := .ref (A 1 0)) rfl dX4_trialCost_1 ?_
  refine lv_aload_n hx hb dX4_trialCost_4 rfl (lv_at hl 0 rfl) ?_
  refine k_get X hW inG4 rfl 0 (by decide) fl_X4_10 rfl 0 rfl (v := .ref (A 0 0)) rfl dX4_trialCost_5 ?_
  obtain ⟨p0, hp0⟩ : ∃ p0, m_X0_emptyLike_u pr (V 0) = p0 := ⟨_, rfl⟩
  have hM := c_X0_emptyLike l D k (A 1) (A 0) pr (V 0)
  rw [hp0] at hM
  refine kNv (As := [.ref (A 0 0)]) (rest := []) X hW hM yw_X0_emptyLike lkn_X4_164 ⟨Nat.le_of_ble_eq_true rfl, Nat.le_of_ble_eq_true rfl⟩ big_out10 big_in10 (big_rcv X hW (by decide)) rfl hl.1 rfl (Nat.le_of_ble_eq_true rfl) ⟨Nat.zero_le _, Nat.zero_le _⟩ dX4_trialCost_8 (fun H locs hW => ?_)
  refine lv_aload_n hx hb dX4_trialCost_11 rfl (lv_at hl 0 rfl) ?_
  refine k_get X hW inG4 rfl 1 (by decide) fl_X4_16 rfl 0 rfl (v := .ref (A 1 0)) rfl dX4_trialCost_12 ?_
  refine lv_iload_n hx hb dX4_trialCost_15 rfl (lv_at hl 1 rfl) ?_
  refine lv_iload_n hx hb dX4_trialCost_16 rfl (lv_at hl 2 rfl) ?_
  refine lv_aload_n hx hb dX4_trialCost_17 rfl (lv_at hl 0 rfl) ?_
  refine k_get X hW inG4 rfl 0 (by decide) fl_X4_10 rfl 0 rfl (v := .ref (A 0 0)) rfl dX4_trialCost_18 ?_
  refine k_getN X hW inG0 rfl 1 (by decide) fln_X4_73 rfl 7 rfl (v := .ref (A 0 2)) rfl dX4_trialCost_21 ?_
  refine lv_iload_n hx hb dX4_trialCost_24 rfl (lv_at hl 1 rfl) ?_
  refine k_aald X hW 9 1 rfl rfl (j := j) (b := A 0 (7 + j)) rfl hj (by decide) rfl dX4_trialCost_25 ?_
  refine k_getN X hW inG3 rfl 1 (by decide) fln_X4_167 rfl (14 + j) (bigQ0 hj) (v := .int ((setC V 1 p0) 0 (6 + j) 1)) rfl dX4_trialCost_26 ?_
  refine k_top (y := V 0 (6 + j) 1) (by rw [setC_n (show (0 : Nat) ≠ 1 by decide)]) ?_
  obtain ⟨p1, hp1⟩ : ∃ p1, m_X0_changeBounds_u p0 (nI j) c1 (V 0 (6 + j) 1) = p1 := ⟨_, rfl⟩
  obtain ⟨t1, ht1⟩ : ∃ t1, m_X0_changeBounds_r p0 (nI j) c1 (V 0 (6 + j) 1) = t1 := ⟨_, rfl⟩
  have hM1 := c_X0_changeBounds l D k (A 1) p0 (nI j) c1 (V 0 (6 + j) 1)
  rw [hp1, ht1] at hM1
  refine kNi (As := [.int (nI j), .int c1, .int (V 0 (6 + j) 1)]) (rest := []) X hW hM1 yw_X0_changeBounds lkn_X4_53 ⟨Nat.le_of_ble_eq_true rfl, Nat.le_of_ble_eq_true rfl⟩ big_out1 big_in1 (big_rcv X hW (by decide)) rfl hl.1 rfl (Nat.le_of_ble_eq_true rfl) ⟨Nat.zero_le _, Nat.zero_le _⟩ dX4_trialCost_29 (fun H locs hW => ?_)
  have es : tc_s (V 0) pr j c1 = p1 := by rw [tc_s, hp0, hp1]
  have hc1 : CM p1 := by rw [← es]; exact CM_tc_s hV
  obtain ⟨q0, hq0⟩ : ∃ q0, m_X4_trialCost_u (V 0) pr j c1 gp = q0 := ⟨_, rfl⟩
  have hr0 : m_X4_trialCost_r (V 0) pr j c1 gp = tc_r q0 := by rw [m_X4_trialCost_r, hq0]
  rw [hr0, hq0] at hQ
  have hq1 : q0 = lp_te j 1000 (lp_tr j gp 16 p1) := by rw [← hq0, m_X4_trialCost_u, es]
  refine lv_pop hx hb dX4_trialCost_32 rfl ?_
  refine lv_iconst (v := nI 0) hx hb dX4_trialCost_33 (by decide +kernel) ?_
  refine lv_istore (lv' := [(4, .int (nI 0)), (0, .ref (B 0)), (1, .int (nI j)), (2, .int c1), (3, .int (nI gp))]) hx hb dX4_trialCost_34 hl (by decide) rfl (fun ls hl => ?_)
  have kx : ∀ (H : Heap) (locs : List Loc) (ls : Array Slot), KW D P s (bigW k B A (setC V 1 q0) nx sz sv z g) H locs → lv_has ls 5 [(0, .ref (B 0))] → W p l e (rmD 6) s m args below meth c H locs 0 0 Q (F0 m 107 ls []) := by
    intro H locs ls hW hl
    refine lv_aload_n hx hb dX4_trialCost_107 rfl (lv_at hl 0 rfl) ?_
    refine k_get X hW inG4 rfl 1 (by decide) fl_X4_16 rfl 0 rfl (v := .ref (A 1 0)) rfl dX4_trialCost_108 ?_
    refine lv_bipush (v := nI 9) hx hb dX4_trialCost_111 (by decide +kernel) ?_
    refine kNi (As := [.int (nI 9)]) (rest := []) X hW (c_X0_total l D k (A 1) q0 (nI 9)) yw_X0_total lkn_X4_98 ⟨Nat.le_of_ble_eq_true rfl, Nat.le_of_ble_eq_true rfl⟩ big_out1 big_in1 (big_rcv X hW (by decide)) rfl hl.1 rfl (Nat.le_of_ble_eq_true rfl) ⟨Nat.zero_le _, Nat.zero_le _⟩ dX4_trialCost_113 (fun H locs hW => ?_)
    refine lv_aload_n hx hb dX4_trialCost_116 rfl (lv_at hl 0 rfl) ?_
    refine k_get X hW inG4 rfl 1 (by decide) fl_X4_16 rfl 0 rfl (v := .ref (A 1 0)) rfl dX4_trialCost_117 ?_
    refine k_getN X hW inG0 rfl 0 (by decide) fln_X4_105 rfl 17 rfl (v := .ref (A 1 1)) rfl dX4_trialCost_120 ?_
    refine lv_iconst (v := nI 3) hx hb dX4_trialCost_123 (by decide +kernel) ?_
    refine k_iald X hW 18 rfl (j := 3) (v := q0 1 3) rfl (by decide) (by decide) rfl dX4_trialCost_124 ?_
    refine lv_aload_n hx hb dX4_trialCost_125 rfl (lv_at hl 0 rfl) ?_
    refine k_get X hW inG4 rfl 1 (by decide) fl_X4_16 rfl 0 rfl (v := .ref (A 1 0)) rfl dX4_trialCost_126 ?_
    refine lv_bipush (v := nI 6) hx hb dX4_trialCost_129 (by decide +kernel) ?_
    refine kNi (As := [.int (nI 6)]) (rest := [.int (q0 1 3), .int (m_X0_total_r q0 (nI 9))]) X hW (c_X0_total l D k (A 1) q0 (nI 6)) yw_X0_total lkn_X4_98 ⟨Nat.le_of_ble_eq_true rfl, Nat.le_of_ble_eq_true rfl⟩ big_out1 big_in1 (big_rcv X hW (by decide)) rfl hl.1 rfl (Nat.le_of_ble_eq_true rfl) ⟨Nat.zero_le _, Nat.zero_le _⟩ dX4_trialCost_131 (fun H locs hW => ?_)
    refine lv_imul hx hb dX4_trialCost_134 ?_
    refine lv_iadd hx hb dX4_trialCost_135 ?_
    exact hQ _ _ _ _ _ _ hW dX4_trialCost_136 rfl rfl
  have l2 : ∀ (r i : Nat) (u : CS) (H : Heap) (locs : List Loc) (ls : Array Slot), i + r = 1000 → CM u → q0 = lp_te j r u → KW D P s (bigW k B A (setC V 1 u) nx sz sv z g) H locs → lv_has ls 5 [(4, .int (nI i)), (1, .int (nI j)), (0, .ref (B 0))] → W p l e (rmD 6) s m args below meth c H locs 0 0 Q (F0 m 70 ls []) := by
    intro r
    induction r with
    | zero =>
      intro i u H locs ls hi hc hu hW hl
      refine lv_iload hx hb dX4_trialCost_70 (lv_at hl 0 rfl) ?_
      refine lv_sipush (v := nI 1000) hx hb dX4_trialCost_72 (by decide +kernel) ?_
      refine lv_icmp_ge (tgt := 107) hx hb dX4_trialCost_75 (by decide) (fun _ => ?_) (fun c => absurd ((nI_leI (by decide) (by omega)).mpr (by omega)) c)
      subst hu
      exact kx _ _ _ hW (lv_sub hl [2] rfl)
    | succ r ih =>
      intro i u H locs ls hi hc hu hW hl
      refine lv_iload hx hb dX4_trialCost_70 (lv_at hl 0 rfl) ?_
      refine lv_sipush (v := nI 1000) hx hb dX4_trialCost_72 (by decide +kernel) ?_
      refine lv_icmp_ge (tgt := 107) hx hb dX4_trialCost_75 (by decide) (fun c => absurd ((nI_leI (by decide) (by omega)).mp c) (by omega)) (fun _ => ?_)
      refine lv_aload_n hx hb dX4_trialCost_78 rfl (lv_at hl 2 rfl) ?_
      refine k_get X hW inG4 rfl 1 (by decide) fl_X4_16 rfl 0 rfl (v := .ref (A 1 0)) rfl dX4_trialCost_79 ?_
      refine k_getN X hW inG0 rfl 1 (by decide) fln_X4_73 rfl 17 rfl (v := .ref (A 1 2)) rfl dX4_trialCost_82 ?_
      refine lv_iload_n hx hb dX4_trialCost_85 rfl (lv_at hl 1 rfl) ?_
      refine k_aald X hW 19 1 rfl rfl (j := j) (b := A 1 (7 + j)) rfl hj (by decide) rfl dX4_trialCost_86 ?_
      refine k_getN X hW inG3 rfl 5 (by decide) fln_X4_170 rfl (24 + j) (bigQ1 hj) (v := .int ((setC V 1 u) 1 (6 + j) 5)) rfl dX4_trialCost_87 ?_
      refine k_top (y := u (6 + j) 5) (by rw [setC_i]) ?_
      refine lv_if_le (tgt := 107) hx hb dX4_trialCost_90 (by decide) (fun c_1 => ?_) (fun c_1 => ?_)
      · rw [lp_te, if_pos c_1] at hu
        subst hu
        exact kx _ _ _ hW (lv_sub hl [2] rfl)
      · rw [lp_te, if_neg c_1] at hu
        refine lv_aload_n hx hb dX4_trialCost_93 rfl (lv_at hl 2 rfl) ?_
        refine k_get X hW inG4 rfl 1 (by decide) fl_X4_16 rfl 0 rfl (v := .ref (A 1 0)) rfl dX4_trialCost_94 ?_
        obtain ⟨u1, hu1⟩ : ∃ u1, m_X0_tick_u u = u1 := ⟨_, rfl⟩
        obtain ⟨t2, ht2⟩ : ∃ t2, m_X0_tick_r u = t2 := ⟨_, rfl⟩
        have hM2 := c_X0_tick l D k (A 1) u hc
        have hc2 := CM_X0_tick hc
        rw [hu1] at hM2 hu hc2
        rw [ht2] at hM2
        refine kNi (As := []) (rest := []) X hW hM2 yw_X0_tick lkn_X4_125 ⟨Nat.le_of_ble_eq_true rfl, Nat.le_of_ble_eq_true rfl⟩ big_out1 big_in1 (big_rcv X hW (by decide)) rfl hl.1 rfl (Nat.le_of_ble_eq_true rfl) ⟨Nat.zero_le _, Nat.zero_le _⟩ dX4_trialCost_97 (fun H locs hW => ?_)
        refine lv_pop hx hb dX4_trialCost_100 rfl ?_
        refine lv_iinc (v := nI (i + 1)) (lv' := [(4, .int (nI (i + 1))), (1, .int (nI j)), (0, .ref (B 0))]) hx hb dX4_trialCost_101 hl (k := 0) rfl (k_inc _) (by decide) rfl (fun ls hl => ?_)
        refine lv_goto (tgt := 70) hx hb dX4_trialCost_104 (by decide) ?_
        exact ih (i + 1) u1 _ _ _ (by omega) hc2 hu hW (lv_sub hl [0, 1, 2] rfl)
  have l1 : ∀ (r i : Nat) (u : CS) (H : Heap) (locs : List Loc) (ls : Array Slot), i + r = 16 → CM u → q0 = lp_te j 1000 (lp_tr j gp r u) → KW D P s (bigW k B A (setC V 1 u) nx sz sv z g) H locs → lv_has ls 5 [(4, .int (nI i)), (3, .int (nI gp)), (1, .int (nI j)), (0, .ref (B 0))] → W p l e (rmD 6) s m args below meth c H locs 0 0 Q (F0 m 36 ls []) := by
    intro r
    induction r with
    | zero =>
      intro i u H locs ls hi hc hu hW hl
      refine lv_iload hx hb dX4_trialCost_36 (lv_at hl 0 rfl) ?_
      refine lv_bipush (v := nI 16) hx hb dX4_trialCost_38 (by decide +kernel) ?_
      refine lv_icmp_ge (tgt := 67) hx hb dX4_trialCost_40 (by decide) (fun _ => ?_) (fun c => absurd ((nI_leI (by decide) (by omega)).mpr (by omega)) c)
      refine lv_iconst (v := nI 0) hx hb dX4_trialCost_67 (by decide +kernel) ?_
      refine lv_istore (lv' := [(4, .int (nI 0)), (3, .int (nI gp)), (1, .int (nI j)), (0, .ref (B 0))]) hx hb dX4_trialCost_68 hl (by decide) rfl (fun ls hl => ?_)
      exact l2 1000 0 u _ _ _ (by omega) hc hu hW (lv_sub hl [0, 2, 3] rfl)
    | succ r ih =>
      intro i u H locs ls hi hc hu hW hl
      refine lv_iload hx hb dX4_trialCost_36 (lv_at hl 0 rfl) ?_
      refine lv_bipush (v := nI 16) hx hb dX4_trialCost_38 (by decide +kernel) ?_
      refine lv_icmp_ge (tgt := 67) hx hb dX4_trialCost_40 (by decide) (fun c => absurd ((nI_leI (by decide) (by omega)).mp c) (by omega)) (fun _ => ?_)
      rw [lp_tr] at hu
      refine lv_aload_n hx hb dX4_trialCost_43 rfl (lv_at hl 3 rfl) ?_
      refine k_get X hW inG4 rfl 1 (by decide) fl_X4_16 rfl 0 rfl (v := .ref (A 1 0)) rfl dX4_trialCost_44 ?_
      refine lv_iload_n hx hb dX4_trialCost_47 rfl (lv_at hl 2 rfl) ?_
      obtain ⟨u1, hu1⟩ : ∃ u1, m_X0_receive_u u (nI j) = u1 := ⟨_, rfl⟩
      obtain ⟨t2, ht2⟩ : ∃ t2, m_X0_receive_r u (nI j) = t2 := ⟨_, rfl⟩
      have hM2 := c_X0_receive l D k (A 1) u (nI j) hc
      have hc2 := CM_X0_receive (f := nI j) hc
      rw [hu1] at hM2 hu hc2
      rw [ht2] at hM2
      refine kNi (As := [.int (nI j)]) (rest := []) X hW hM2 yw_X0_receive lkn_X4_57 ⟨Nat.le_of_ble_eq_true rfl, Nat.le_of_ble_eq_true rfl⟩ big_out1 big_in1 (big_rcv X hW (by decide)) rfl hl.1 rfl (Nat.le_of_ble_eq_true rfl) ⟨Nat.zero_le _, Nat.zero_le _⟩ dX4_trialCost_48 (fun H locs hW => ?_)
      refine lv_pop hx hb dX4_trialCost_51 rfl ?_
      refine lv_aload_n hx hb dX4_trialCost_52 rfl (lv_at hl 3 rfl) ?_
      refine k_get X hW inG4 rfl 1 (by decide) fl_X4_16 rfl 0 rfl (v := .ref (A 1 0)) rfl dX4_trialCost_53 ?_
      refine lv_iload_n hx hb dX4_trialCost_56 rfl (lv_at hl 1 rfl) ?_
      obtain ⟨u2, hu2⟩ : ∃ u2, lp_run gp u1 = u2 := ⟨_, rfl⟩
      obtain ⟨t3, ht3⟩ : ∃ t3, m_X0_runTicks_r u1 gp = t3 := ⟨_, rfl⟩
      have hM3 := c_X0_runTicks l D k (A 1) u1 gp hc2 hg
      have hc3 := CM_run gp hc2
      rw [m_X0_runTicks_u, hu2, ht3] at hM3
      rw [hu2] at hu hc3
      refine kNi (As := [.int (nI gp)]) (rest := []) X hW hM3 yw_X0_runTicks lkn_X4_128 ⟨Nat.le_of_ble_eq_true rfl, Nat.le_of_ble_eq_true rfl⟩ big_out1 big_in1 (big_rcv X hW (by decide)) rfl hl.1 rfl (Nat.le_of_ble_eq_true rfl) ⟨Nat.zero_le _, Nat.zero_le _⟩ dX4_trialCost_57 (fun H locs hW => ?_)
      refine lv_pop hx hb dX4_trialCost_60 rfl ?_
      refine lv_iinc (v := nI (i + 1)) (lv' := [(4, .int (nI (i + 1))), (3, .int (nI gp)), (1, .int (nI j)), (0, .ref (B 0))]) hx hb dX4_trialCost_61 hl (k := 0) rfl (k_inc _) (by decide) rfl (fun ls hl => ?_)
      refine lv_goto (tgt := 36) hx hb dX4_trialCost_64 (by decide) ?_
      exact ih (i + 1) u2 _ _ _ (by omega) hc3 hu hW (lv_sub hl [0, 1, 2, 3] rfl)
  exact l1 16 0 p1 _ _ _ (by omega) hc1 hq1 hW (lv_sub hl [0, 4, 2, 1] rfl)
def bc_P (u : CS) (j gp : Nat) : Nat → Nat → CS → CS
  | 0, _, p => p
  | r + 1, i, p => bc_P u j gp r (i + 1) (m_X4_trialCost_u u p j (nI i) gp)
def bc_B (u : CS) (j gp : Nat) : Nat → Nat → CS → Int32 → Int32 → Int32
  | 0, _, _, b, _ => b
  | r + 1, i, p, b, v => if v ≤ m_X4_trialCost_r u p j (nI i) gp then bc_B u j gp r (i + 1) (m_X4_trialCost_u u p j (nI i) gp) b v else bc_B u j gp r (i + 1) (m_X4_trialCost_u u p j (nI i) gp) (nI i) (m_X4_trialCost_r u p j (nI i) gp)
def bc_L (u : CS) (j gp : Nat) : Nat → Nat → CS → Int32 → Int32
  | 0, _, _, v => v
  | r + 1, i, p, v => if v ≤ m_X4_trialCost_r u p j (nI i) gp then bc_L u j gp r (i + 1) (m_X4_trialCost_u u p j (nI i) gp) v else bc_L u j gp r (i + 1) (m_X4_trialCost_u u p j (nI i) gp) (m_X4_trialCost_r u p j (nI i) gp)
def bc_r (u p : CS) (j gp : Nat) (w : Int32) : Int32 := if w = 0 then bc_B u j gp 31 2 (m_X4_trialCost_u u p j (nI 1) gp) (nI 1) (m_X4_trialCost_r u p j (nI 1) gp) else bc_L u j gp 31 2 (m_X4_trialCost_u u p j (nI 1) gp) (m_X4_trialCost_r u p j (nI 1) gp)
def m_X4_bestCount_r (u p : CS) (x gp w : Int32) : Int32 := if m_X4_isQueue_r x = 0 then (-1) else if gp < nI 1 then (-2) else if nI 20 < gp then (-2) else if w < 0 then (-2) else if w ≤ nI 1 then bc_r u p (tn x) (tn gp) w else (-2)
def m_X4_bestCount_V (V : Nat → CS) (x gp w : Int32) : Nat → CS := if m_X4_isQueue_r x = 0 then V else if gp < nI 1 then V else if nI 20 < gp then V else if w < 0 then V else if w ≤ nI 1 then setC V 1 (bc_P (V 0) (tn x) (tn gp) 31 2 (m_X4_trialCost_u (V 0) (V 1) (tn x) (nI 1) (tn gp))) else V
set_option maxHeartbeats 4000000 in
set_option maxRecDepth 100000 in
theorem c_X4_bestCount (l : Launch) (D : va_G) (k : Nat → ClassId) (B : Nat → Nat) (A : Nat → Nat → Nat) (V : Nat → CS) (nx sz : Int32) (sv z g : Nat → Int32) (x gp w : Int32) (hV : CM (V 0)) : mI l yX4_bestCount (wsY yX4_bestCount cX4_bestCount 8 (some .int)) 7 D k [.ref (B 0), .int x, .int gp, .int w] (bigW k B A V nx sz sv z g) (bigW k B A (m_X4_bestCount_V V x gp w) nx sz sv z g) (m_X4_bestCount_r (V 0) (V 1) x gp w) := by
  refine mI_intro rfl (Nat.le_of_ble_eq_true rfl) (Or.inl rfl) ?_
  intro p e s m args below meth c P Q ls X hW hl hQ
  have hx := X.hx
  have hb := X.hb
  have hl : lv_has ls 8 [(0, .ref (B 0)), (1, .int x), (2, .int gp), (3, .int w)] := hl
  refine lv_iload_n hx hb dX4_bestCount_0 rfl (lv_at hl 1 rfl) ?_
  refine kSi (As := [.int x]) (rest := []) X hW (c_X4_isQueue l D k x) yw_X4_isQueue lk_X4_69 ⟨Nat.le_of_ble_eq_true rfl, Nat.le_of_ble_eq_true rfl⟩ rfl hl.1 rfl (Nat.le_of_ble_eq_true rfl) ⟨Nat.zero_le _, Nat.zero_le _⟩ dX4_bestCount_1 (fun H locs hW => ?_)
  refine lv_if_ne (tgt := 9) hx hb dX4_bestCount_4 (by decide) (fun c_0 => ?_) (fun c_0 => ?_)
  · refine lv_iload_n hx hb dX4_bestCount_9 rfl (lv_at hl 2 rfl) ?_
    refine lv_iconst (v := nI 1) hx hb dX4_bestCount_10 (by decide +kernel) ?_
    refine lv_icmp_lt (tgt := 29) hx hb dX4_bestCount_11 (by decide) (fun c_1 => ?_) (fun c_1 => ?_)
    · refine lv_bipush (v := (-2)) hx hb dX4_bestCount_29 (by decide +kernel) ?_
      exact hQ _ _ _ _ _ _ hW dX4_bestCount_31 (by rw [m_X4_bestCount_r, if_neg c_0, if_pos c_1]) (by rw [m_X4_bestCount_V, if_neg c_0, if_pos c_1])
    · refine lv_iload_n hx hb dX4_bestCount_14 rfl (lv_at hl 2 rfl) ?_
      refine lv_bipush (v := nI 20) hx hb dX4_bestCount_15 (by decide +kernel) ?_
      refine lv_icmp_gt (tgt := 29) hx hb dX4_bestCount_17 (by decide) (fun c_2 => ?_) (fun c_2 => ?_)
      · refine lv_bipush (v := (-2)) hx hb dX4_bestCount_29 (by decide +kernel) ?_
        exact hQ _ _ _ _ _ _ hW dX4_bestCount_31 (by rw [m_X4_bestCount_r, if_neg c_0, if_neg c_1, if_pos c_2]) (by rw [m_X4_bestCount_V, if_neg c_0, if_neg c_1, if_pos c_2])
      · refine lv_iload_n hx hb dX4_bestCount_20 rfl (lv_at hl 3 rfl) ?_
        refine lv_if_lt (tgt := 29) hx hb dX4_bestCount_21 (by decide) (fun c_3 => ?_) (fun c_3 => ?_)
        · refine lv_bipush (v := (-2)) hx hb dX4_bestCount_29 (by decide +kernel) ?_
          exact hQ _ _ _ _ _ _ hW dX4_bestCount_31 (by rw [m_X4_bestCount_r, if_neg c_0, if_neg c_1, if_neg c_2, if_pos c_3]) (by rw [m_X4_bestCount_V, if_neg c_0, if_neg c_1, if_neg c_2, if_pos c_3])
        · refine lv_iload_n hx hb dX4_bestCount_24 rfl (lv_at hl 3 rfl) ?_
          refine lv_iconst (v := nI 1) hx hb dX4_bestCount_25 (by decide +kernel) ?_
          refine lv_icmp_le (tgt := 32) hx hb dX4_bestCount_26 (by decide) (fun c_4 => ?_) (fun c_4 => ?_)
          · obtain ⟨j, hj, rfl⟩ := isqj c_0
            have eg := k_ge1 c_1
            have hg := tn_lt gp
            obtain ⟨y, hy⟩ : ∃ y, tn gp = y := ⟨_, rfl⟩
            have ej : tn (nI j) = j := tn_of rfl (by omega)
            have hr : m_X4_bestCount_r (V 0) (V 1) (nI j) gp w = bc_r (V 0) (V 1) j (tn gp) w := by rw [m_X4_bestCount_r, if_neg c_0, if_neg c_1, if_neg c_2, if_neg c_3, if_pos c_4, ej]
            have hu : m_X4_bestCount_V V (nI j) gp w = setC V 1 (bc_P (V 0) j (tn gp) 31 2 (m_X4_trialCost_u (V 0) (V 1) j (nI 1) (tn gp))) := by rw [m_X4_bestCount_V, if_neg c_0, if_neg c_1, if_neg c_2, if_neg c_3, if_pos c_4, ej]
            rw [hr, hu] at hQ
            clear hr hu
            rw [hy] at eg hg hQ
            subst eg
            have hW := hW.eq (show bigW k B A V nx sz sv z g = bigW k B A (setC V 1 (V 1)) nx sz sv z g by rw [setC_self])
            refine lv_iconst (v := nI 1) hx hb dX4_bestCount_32 (by decide +kernel) ?_
            refine lv_istore (lv' := [(4, .int (nI 1)), (0, .ref (B 0)), (1, .int (nI j)), (2, .int (nI y)), (3, .int w)]) hx hb dX4_bestCount_33 hl (by decide) rfl (fun ls hl => ?_)
            refine lv_aload_n hx hb dX4_bestCount_35 rfl (lv_at hl 1 rfl) ?_
            refine lv_iload_n hx hb dX4_bestCount_36 rfl (lv_at hl 2 rfl) ?_
            refine lv_iconst (v := nI 1) hx hb dX4_bestCount_37 (by decide +kernel) ?_
            refine lv_iload_n hx hb dX4_bestCount_38 rfl (lv_at hl 3 rfl) ?_
            obtain ⟨p1, hp1⟩ : ∃ p1, m_X4_trialCost_u (V 0) (V 1) j (nI 1) y = p1 := ⟨_, rfl⟩
            obtain ⟨v1, hv1⟩ : ∃ v1, m_X4_trialCost_r (V 0) (V 1) j (nI 1) y = v1 := ⟨_, rfl⟩
            have hM := c_X4_trialCost l D k B A V nx sz sv z g (V 1) j (nI 1) y hj hg hV
            rw [hp1, hv1] at hM
            refine kVi (As := [.int (nI j), .int (nI 1), .int (nI y)]) (rest := []) (wr := []) X hW hM yw_X4_trialCost lk_X4_131 ⟨Nat.le_of_ble_eq_true rfl, Nat.le_of_ble_eq_true rfl⟩ (List.Perm.refl _) (List.Perm.refl _) (k_rcv X hW (ci := 4) (q0 := 0) rfl rfl) rfl hl.1 rfl (Nat.le_of_ble_eq_true rfl) ⟨Nat.zero_le _, Nat.zero_le _⟩ dX4_bestCount_39 (fun H locs hW => ?_)
            rw [bc_r, hp1, hv1] at hQ
            refine lv_istore (lv' := [(5, .int v1), (4, .int (nI 1)), (0, .ref (B 0)), (1, .int (nI j)), (2, .int (nI y)), (3, .int w)]) hx hb dX4_bestCount_42 hl (by decide) rfl (fun ls hl => ?_)
            refine lv_iconst (v := nI 2) hx hb dX4_bestCount_44 (by decide +kernel) ?_
            refine lv_istore (lv' := [(6, .int (nI 2)), (5, .int v1), (4, .int (nI 1)), (0, .ref (B 0)), (1, .int (nI j)), (2, .int (nI y)), (3, .int w)]) hx hb dX4_bestCount_45 hl (by decide) rfl (fun ls hl => ?_)
            obtain ⟨rr, hrr⟩ : ∃ rr, (if w = 0 then bc_B (V 0) j y 31 2 p1 (nI 1) v1 else bc_L (V 0) j y 31 2 p1 v1) = rr := ⟨_, rfl⟩
            obtain ⟨pe, hpe⟩ : ∃ pe, bc_P (V 0) j y 31 2 p1 = pe := ⟨_, rfl⟩
            rw [hrr, hpe] at hQ
            have lp : ∀ (r i : Nat) (pr : CS) (b v : Int32) (H : Heap) (locs : List Loc) (ls : Array Slot), i + r = 33 → rr = (if w = 0 then bc_B (V 0) j y r i pr b v else bc_L (V 0) j y r i pr v) → pe = bc_P (V 0) j y r i pr → KW D P s (bigW k B A (setC V 1 pr) nx sz sv z g) H locs → lv_has ls 8 [(6, .int (nI i)), (5, .int v), (4, .int b), (3, .int w), (2, .int (nI y)), (1, .int (nI j)), (0, .ref (B 0))] → W p l e (rmD 7) s m args below meth c H locs 0 0 Q (F0 m 47 ls []) := by
              intro r
              induction r with
              | zero =>
                intro i pr b v H locs ls hi hr hu hW hl
                refine lv_iload hx hb dX4_bestCount_47 (lv_at hl 0 rfl) ?_
                refine lv_bipush (v := nI 32) hx hb dX4_bestCount_49 (by decide +kernel) ?_
                refine lv_icmp_gt (tgt := 85) hx hb dX4_bestCount_51 (by decide) (fun _ => ?_) (fun c => absurd ((nI_ltI (by decide) (by omega)).mpr (by omega)) c)
                refine lv_iload_n hx hb dX4_bestCount_85 rfl (lv_at hl 3 rfl) ?_
                refine lv_if_ne (tgt := 94) hx hb dX4_bestCount_86 (by decide) (fun c_5 => ?_) (fun c_5 => ?_)
                · refine lv_iload hx hb dX4_bestCount_94 (lv_at hl 1 rfl) ?_
                  exact hQ _ _ _ _ _ _ hW dX4_bestCount_96 (by rw [hr, if_neg c_5, bc_L]) (by rw [hu, bc_P])
                · refine lv_iload hx hb dX4_bestCount_89 (lv_at hl 2 rfl) ?_
                  refine lv_goto (tgt := 96) hx hb dX4_bestCount_91 (by decide) ?_
                  exact hQ _ _ _ _ _ _ hW dX4_bestCount_96 (by rw [hr, if_pos c_5, bc_B]) (by rw [hu, bc_P])
              | succ r ih =>
                intro i pr b v H locs ls hi hr hu hW hl
                refine lv_iload hx hb dX4_bestCount_47 (lv_at hl 0 rfl) ?_
                refine lv_bipush (v := nI 32) hx hb dX4_bestCount_49 (by decide +kernel) ?_
                refine lv_icmp_gt (tgt := 85) hx hb dX4_bestCount_51 (by decide) (fun c => absurd ((nI_ltI (by decide) (by omega)).mp c) (by omega)) (fun _ => ?_)
                refine lv_aload_n hx hb dX4_bestCount_54 rfl (lv_at hl 6 rfl) ?_
                refine lv_iload_n hx hb dX4_bestCount_55 rfl (lv_at hl 5 rfl) ?_
                refine lv_iload hx hb dX4_bestCount_56 (lv_at hl 0 rfl) ?_
                refine lv_iload_n hx hb dX4_bestCount_58 rfl (lv_at hl 4 rfl) ?_
                obtain ⟨p2, hp2⟩ : ∃ p2, m_X4_trialCost_u (V 0) pr j (nI i) y = p2 := ⟨_, rfl⟩
                obtain ⟨v2, hv2⟩ : ∃ v2, m_X4_trialCost_r (V 0) pr j (nI i) y = v2 := ⟨_, rfl⟩
                have hM2 := c_X4_trialCost l D k B A V nx sz sv z g pr j (nI i) y hj hg hV
                rw [hp2, hv2] at hM2
                rw [bc_B, bc_L, hp2, hv2] at hr
                rw [bc_P, hp2] at hu
                refine kVi (As := [.int (nI j), .int (nI i), .int (nI y)]) (rest := []) (wr := []) X hW hM2 yw_X4_trialCost lk_X4_131 ⟨Nat.le_of_ble_eq_true rfl, Nat.le_of_ble_eq_true rfl⟩ (List.Perm.refl _) (List.Perm.refl _) (k_rcv X hW (ci := 4) (q0 := 0) rfl rfl) rfl hl.1 rfl (Nat.le_of_ble_eq_true rfl) ⟨Nat.zero_le _, Nat.zero_le _⟩ dX4_bestCount_59 (fun H locs hW => ?_)
                refine lv_istore (lv' := [(7, .int v2), (6, .int (nI i)), (5, .int v), (4, .int b), (3, .int w), (2, .int (nI y)), (1, .int (nI j)), (0, .ref (B 0))]) hx hb dX4_bestCount_62 hl (by decide) rfl (fun ls hl => ?_)
                refine lv_iload hx hb dX4_bestCount_64 (lv_at hl 0 rfl) ?_
                refine lv_iload hx hb dX4_bestCount_66 (lv_at hl 2 rfl) ?_
                refine lv_icmp_ge (tgt := 79) hx hb dX4_bestCount_68 (by decide) (fun c_6 => ?_) (fun c_6 => ?_)
                · rw [if_pos c_6, if_pos c_6] at hr
                  refine lv_iinc (v := nI (i + 1)) (lv' := [(6, .int (nI (i + 1))), (7, .int v2), (5, .int v), (4, .int b), (3, .int w), (2, .int (nI y)), (1, .int (nI j)), (0, .ref (B 0))]) hx hb dX4_bestCount_79 hl (k := 1) rfl (k_inc _) (by decide) rfl (fun ls hl => ?_)
                  refine lv_goto (tgt := 47) hx hb dX4_bestCount_82 (by decide) ?_
                  exact ih (i + 1) p2 b v _ _ _ (by omega) hr hu hW (lv_sub hl [0, 2, 3, 4, 5, 6, 7] rfl)
                · rw [if_neg c_6, if_neg c_6] at hr
                  refine lv_iload hx hb dX4_bestCount_71 (lv_at hl 1 rfl) ?_
                  refine lv_istore (lv' := [(4, .int (nI i)), (7, .int v2), (6, .int (nI i)), (5, .int v), (3, .int w), (2, .int (nI y)), (1, .int (nI j)), (0, .ref (B 0))]) hx hb dX4_bestCount_73 hl (by decide) rfl (fun ls hl => ?_)
                  refine lv_iload hx hb dX4_bestCount_75 (lv_at hl 1 rfl) ?_
                  refine lv_istore (lv' := [(5, .int v2), (4, .int (nI i)), (7, .int v2), (6, .int (nI i)), (3, .int w), (2, .int (nI y)), (1, .int (nI j)), (0, .ref (B 0))]) hx hb dX4_bestCount_77 hl (by decide) rfl (fun ls hl => ?_)
                  refine lv_iinc (v := nI (i + 1)) (lv' := [(6, .int (nI (i + 1))), (5, .int v2), (4, .int (nI i)), (7, .int v2), (3, .int w), (2, .int (nI y)), (1, .int (nI j)), (0, .ref (B 0))]) hx hb dX4_bestCount_79 hl (k := 3) rfl (k_inc _) (by decide) rfl (fun ls hl => ?_)
                  refine lv_goto (tgt := 47) hx hb dX4_bestCount_82 (by decide) ?_
                  exact ih (i + 1) p2 (nI i) v2 _ _ _ (by omega) hr hu hW (lv_sub hl [0, 1, 2, 4, 5, 6, 7] rfl)
            exact lp 31 2 p1 (nI 1) v1 _ _ _ (by omega) hrr.symm hpe.symm hW (lv_sub hl [0, 1, 2, 6, 5, 4, 3] rfl)
          · refine lv_bipush (v := (-2)) hx hb dX4_bestCount_29 (by decide +kernel) ?_
            exact hQ _ _ _ _ _ _ hW dX4_bestCount_31 (by rw [m_X4_bestCount_r, if_neg c_0, if_neg c_1, if_neg c_2, if_neg c_3, if_neg c_4]) (by rw [m_X4_bestCount_V, if_neg c_0, if_neg c_1, if_neg c_2, if_neg c_3, if_neg c_4])
  · refine lv_iconst (v := (-1)) hx hb dX4_bestCount_7 (by decide +kernel) ?_
    exact hQ _ _ _ _ _ _ hW dX4_bestCount_8 (by rw [m_X4_bestCount_r, if_pos c_0]) (by rw [m_X4_bestCount_V, if_pos c_0])
