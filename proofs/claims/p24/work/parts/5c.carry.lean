def m_X4_carryOrder_r (u : CS) (z : Nat → Int32) : Int32 := if z 4 = nI 102 then m_X0_receive_r u (z 5) else if z 4 = nI 116 then m_X0_passTicks_r u (z 5) else if z 4 = nI 113 then m_X0_changeBounds_r u (z 5) (z 6) (z 7) else m_X0_changeMask_r u (z 5)
def m_X4_carryOrder_u (u : CS) (z : Nat → Int32) : CS := if z 4 = nI 102 then m_X0_receive_u u (z 5) else if z 4 = nI 116 then m_X0_passTicks_u u (z 5) else if z 4 = nI 113 then m_X0_changeBounds_u u (z 5) (z 6) (z 7) else m_X0_changeMask_u u (z 5)
theorem CM_X4_carryOrder {u : CS} {z : Nat → Int32} (h : CM u) : CM (m_X4_carryOrder_u u z) := by
  rw [m_X4_carryOrder_u]
  split
  · exact CM_X0_receive h
  · split
    · exact CM_X0_passTicks h
    · split
      · exact CM_X0_changeBounds h
      · exact CM_X0_changeMask h
set_option maxHeartbeats 4000000 in
set_option maxRecDepth 100000 in
theorem c_X4_carryOrder (l : Launch) (D : va_G) (k : Nat → ClassId) (B : Nat → Nat) (A : Nat → Nat → Nat) (V : Nat → CS) (nx sz : Int32) (sv z g : Nat → Int32) (u : CS) (hc : CM u) : mI l yX4_carryOrder (wsY yX4_carryOrder cX4_carryOrder 1 (some .int)) 7 D k [.ref (B 0)] (bigW k B A (setC V 0 u) nx sz sv z g) (bigW k B A (setC V 0 (m_X4_carryOrder_u u z)) nx sz sv z g) (m_X4_carryOrder_r u z) := by
  refine mI_intro rfl (Nat.le_of_ble_eq_true rfl) (Or.inl rfl) ?_
  intro p e s m args below meth c P Q ls X hW hl hQ
  have hx := X.hx
  have hb := X.hb
  have hl : lv_has ls 1 [(0, .ref (B 0))] := hl
  refine lv_aload_n hx hb dX4_carryOrder_0 rfl (lv_at hl 0 rfl) ?_
  refine k_get X hW inG4 rfl 5 (by decide) fl_X4_37 rfl 0 rfl (v := .ref (B 5)) rfl dX4_carryOrder_1 ?_
  refine k_getN X hW inG2 rfl 4 (by decide) fln_X4_173 rfl 5 rfl (v := .int (z 4)) rfl dX4_carryOrder_4 ?_
  by_cases c_102 : z 4 = nI 102
  · refine lv_lookup (off := 33) (tgt := 40) hx hb dX4_carryOrder_7 (by decide) (by rw [c_102]; decide +kernel) (by decide) ?_
    refine lv_aload_n hx hb dX4_carryOrder_40 rfl (lv_at hl 0 rfl) ?_
    refine k_get X hW inG4 rfl 0 (by decide) fl_X4_10 rfl 0 rfl (v := .ref (A 0 0)) rfl dX4_carryOrder_41 ?_
    refine lv_aload_n hx hb dX4_carryOrder_44 rfl (lv_at hl 0 rfl) ?_
    refine k_get X hW inG4 rfl 5 (by decide) fl_X4_37 rfl 0 rfl (v := .ref (B 5)) rfl dX4_carryOrder_45 ?_
    refine k_getN X hW inG2 rfl 5 (by decide) fln_X4_177 rfl 5 rfl (v := .int (z 5)) rfl dX4_carryOrder_48 ?_
    refine kNi (As := [.int (z 5)]) (rest := []) X hW (c_X0_receive l D k (A 0) u (z 5) hc) yw_X0_receive lkn_X4_57 ⟨Nat.le_of_ble_eq_true rfl, Nat.le_of_ble_eq_true rfl⟩ big_out0 big_in0 (big_rcv X hW (by decide)) rfl hl.1 rfl (Nat.le_of_ble_eq_true rfl) ⟨Nat.zero_le _, Nat.zero_le _⟩ dX4_carryOrder_51 (fun H locs hW => ?_)
    exact hQ _ _ _ _ _ _ hW dX4_carryOrder_54 (by rw [m_X4_carryOrder_r, if_pos c_102]) (by rw [m_X4_carryOrder_u, if_pos c_102])
  by_cases c_116 : z 4 = nI 116
  · refine lv_lookup (off := 48) (tgt := 55) hx hb dX4_carryOrder_7 (by decide) (by rw [c_116]; decide +kernel) (by decide) ?_
    refine lv_aload_n hx hb dX4_carryOrder_55 rfl (lv_at hl 0 rfl) ?_
    refine k_get X hW inG4 rfl 0 (by decide) fl_X4_10 rfl 0 rfl (v := .ref (A 0 0)) rfl dX4_carryOrder_56 ?_
    refine lv_aload_n hx hb dX4_carryOrder_59 rfl (lv_at hl 0 rfl) ?_
    refine k_get X hW inG4 rfl 5 (by decide) fl_X4_37 rfl 0 rfl (v := .ref (B 5)) rfl dX4_carryOrder_60 ?_
    refine k_getN X hW inG2 rfl 5 (by decide) fln_X4_177 rfl 5 rfl (v := .int (z 5)) rfl dX4_carryOrder_63 ?_
    refine kNi (As := [.int (z 5)]) (rest := []) X hW (c_X0_passTicks l D k (A 0) u (z 5) hc) yw_X0_passTicks lkn_X4_66 ⟨Nat.le_of_ble_eq_true rfl, Nat.le_of_ble_eq_true rfl⟩ big_out0 big_in0 (big_rcv X hW (by decide)) rfl hl.1 rfl (Nat.le_of_ble_eq_true rfl) ⟨Nat.zero_le _, Nat.zero_le _⟩ dX4_carryOrder_66 (fun H locs hW => ?_)
    exact hQ _ _ _ _ _ _ hW dX4_carryOrder_69 (by rw [m_X4_carryOrder_r, if_neg c_102, if_pos c_116]) (by rw [m_X4_carryOrder_u, if_neg c_102, if_pos c_116])
  by_cases c_113 : z 4 = nI 113
  · refine lv_lookup (off := 63) (tgt := 70) hx hb dX4_carryOrder_7 (by decide) (by rw [c_113]; decide +kernel) (by decide) ?_
    refine lv_aload_n hx hb dX4_carryOrder_70 rfl (lv_at hl 0 rfl) ?_
    refine k_get X hW inG4 rfl 0 (by decide) fl_X4_10 rfl 0 rfl (v := .ref (A 0 0)) rfl dX4_carryOrder_71 ?_
    refine lv_aload_n hx hb dX4_carryOrder_74 rfl (lv_at hl 0 rfl) ?_
    refine k_get X hW inG4 rfl 5 (by decide) fl_X4_37 rfl 0 rfl (v := .ref (B 5)) rfl dX4_carryOrder_75 ?_
    refine k_getN X hW inG2 rfl 5 (by decide) fln_X4_177 rfl 5 rfl (v := .int (z 5)) rfl dX4_carryOrder_78 ?_
    refine lv_aload_n hx hb dX4_carryOrder_81 rfl (lv_at hl 0 rfl) ?_
    refine k_get X hW inG4 rfl 5 (by decide) fl_X4_37 rfl 0 rfl (v := .ref (B 5)) rfl dX4_carryOrder_82 ?_
    refine k_getN X hW inG2 rfl 6 (by decide) fln_X4_180 rfl 5 rfl (v := .int (z 6)) rfl dX4_carryOrder_85 ?_
    refine lv_aload_n hx hb dX4_carryOrder_88 rfl (lv_at hl 0 rfl) ?_
    refine k_get X hW inG4 rfl 5 (by decide) fl_X4_37 rfl 0 rfl (v := .ref (B 5)) rfl dX4_carryOrder_89 ?_
    refine k_getN X hW inG2 rfl 7 (by decide) fln_X4_183 rfl 5 rfl (v := .int (z 7)) rfl dX4_carryOrder_92 ?_
    refine kNi (As := [.int (z 5), .int (z 6), .int (z 7)]) (rest := []) X hW (c_X0_changeBounds l D k (A 0) u (z 5) (z 6) (z 7)) yw_X0_changeBounds lkn_X4_53 ⟨Nat.le_of_ble_eq_true rfl, Nat.le_of_ble_eq_true rfl⟩ big_out0 big_in0 (big_rcv X hW (by decide)) rfl hl.1 rfl (Nat.le_of_ble_eq_true rfl) ⟨Nat.zero_le _, Nat.zero_le _⟩ dX4_carryOrder_95 (fun H locs hW => ?_)
    exact hQ _ _ _ _ _ _ hW dX4_carryOrder_98 (by rw [m_X4_carryOrder_r, if_neg c_102, if_neg c_116, if_pos c_113]) (by rw [m_X4_carryOrder_u, if_neg c_102, if_neg c_116, if_pos c_113])
  have n_102 : ¬ (102 : Int) = (z 4).toInt := fun h => c_102 ((k_toInt_eq (j := 102) (by decide)).mp h.symm)
  have n_113 : ¬ (113 : Int) = (z 4).toInt := fun h => c_113 ((k_toInt_eq (j := 113) (by decide)).mp h.symm)
  have n_116 : ¬ (116 : Int) = (z 4).toInt := fun h => c_116 ((k_toInt_eq (j := 116) (by decide)).mp h.symm)
  refine lv_lookup (off := 92) (tgt := 99) hx hb dX4_carryOrder_7 (by decide) (show Op.lookupswitch.offset [(102, 33), (113, 63), (116, 48)] 92 (z 4).toInt = 92 from by rw [Op.lookupswitch.offset_cons, if_neg n_102, Op.lookupswitch.offset_cons, if_neg n_113, Op.lookupswitch.offset_cons, if_neg n_116, Op.lookupswitch.offset_nil]) (by decide) ?_
  refine lv_aload_n hx hb dX4_carryOrder_99 rfl (lv_at hl 0 rfl) ?_
  refine k_get X hW inG4 rfl 0 (by decide) fl_X4_10 rfl 0 rfl (v := .ref (A 0 0)) rfl dX4_carryOrder_100 ?_
  refine lv_aload_n hx hb dX4_carryOrder_103 rfl (lv_at hl 0 rfl) ?_
  refine k_get X hW inG4 rfl 5 (by decide) fl_X4_37 rfl 0 rfl (v := .ref (B 5)) rfl dX4_carryOrder_104 ?_
  refine k_getN X hW inG2 rfl 5 (by decide) fln_X4_177 rfl 5 rfl (v := .int (z 5)) rfl dX4_carryOrder_107 ?_
  refine kNi (As := [.int (z 5)]) (rest := []) X hW (c_X0_changeMask l D k (A 0) u (z 5)) yw_X0_changeMask lkn_X4_60 ⟨Nat.le_of_ble_eq_true rfl, Nat.le_of_ble_eq_true rfl⟩ big_out0 big_in0 (big_rcv X hW (by decide)) rfl hl.1 rfl (Nat.le_of_ble_eq_true rfl) ⟨Nat.zero_le _, Nat.zero_le _⟩ dX4_carryOrder_110 (fun H locs hW => ?_)
  exact hQ _ _ _ _ _ _ hW dX4_carryOrder_113 (by rw [m_X4_carryOrder_r, if_neg c_102, if_neg c_116, if_neg c_113]) (by rw [m_X4_carryOrder_u, if_neg c_102, if_neg c_116, if_neg c_113])
/-- the turns of one order: the card behind them, how many were done, whether all were (1) -/
def lp_ci (z : Nat → Int32) : Nat → CS → Nat → CS × Nat × Nat
  | 0, u, n => (u, n, 1)
  | r + 1, u, n => if m_X4_carryOrder_r u z < 0 then (m_X4_carryOrder_u u z, n, 0) else lp_ci z r (m_X4_carryOrder_u u z) (n + 1)
/-- the orders of the pad, from the reader's place: the pad, the card, how many were done -/
def lp_ca (g : Nat → Int32) : Nat → (Nat → Int32) → CS → Nat → (Nat → Int32) × CS × Nat
  | 0, z, u, n => (z, u, n)
  | r + 1, z, u, n => if m_X2_readOrder_r z g = 0 then (m_X2_readOrder_z z g, u, n)
    else if (lp_ci (m_X2_readOrder_z z g) (tn (m_X2_readOrder_z z g 8)) u n).2.2 = 0 then (m_X2_readOrder_z z g, (lp_ci (m_X2_readOrder_z z g) (tn (m_X2_readOrder_z z g 8)) u n).1, (lp_ci (m_X2_readOrder_z z g) (tn (m_X2_readOrder_z z g 8)) u n).2.1)
    else lp_ca g r (m_X2_readOrder_z z g) (lp_ci (m_X2_readOrder_z z g) (tn (m_X2_readOrder_z z g 8)) u n).1 (lp_ci (m_X2_readOrder_z z g) (tn (m_X2_readOrder_z z g 8)) u n).2.1
theorem ci_CM (z : Nat → Int32) : ∀ (r : Nat) (u : CS) (n : Nat), CM u → CM (lp_ci z r u n).1 := by
  intro r
  induction r with
  | zero => intro u n h; exact h
  | succ r ih =>
    intro u n h
    rw [lp_ci]
    split
    · exact CM_X4_carryOrder h
    · exact ih _ _ (CM_X4_carryOrder h)
theorem ci_good (z : Nat → Int32) : ∀ (r : Nat) (u : CS) (n : Nat), (lp_ci z r u n).2.2 = 0 ∨ (lp_ci z r u n).2.2 = 1 := by
  intro r
  induction r with
  | zero => intro u n; exact Or.inr rfl
  | succ r ih =>
    intro u n
    rw [lp_ci]
    split
    · exact Or.inl rfl
    · exact ih _ _
theorem k_letn {i : Nat} {x : Int32} (hi : i < 2 ^ 31) (h : tn x ≤ i) : x ≤ nI i := by
  by_cases h0 : x < 0
  · exact Int32.le_of_lt (Int32.lt_of_lt_of_le h0 (Int32.not_lt.mp (nI_pos hi)))
  · rw [tn_ge h0]; exact nI_le h hi
theorem k_ltnI {i : Nat} {x : Int32} (hi : i < 2 ^ 31) (h : i < tn x) : ¬ x ≤ nI i := by
  have h0 : ¬ x < 0 := by
    intro h0
    rw [Int32.lt_iff_toInt_lt] at h0
    have e : (0 : Int32).toInt = 0 := rfl
    have e2 : tn x = x.toInt.toNat := rfl
    omega
  rw [tn_ge h0]
  intro q
  exact absurd ((nI_leI (tn_lt x) hi).mp q) (by omega)
def ca_V (V : Nat → CS) (nx : Nat) (z g : Nat → Int32) : (Nat → Int32) × CS × Nat := lp_ca g 80 (m_X2_startReading_z (m_X2_firstFault_z z g)) (V 0) 0
set_option maxHeartbeats 4000000 in
set_option maxRecDepth 100000 in
theorem c_X4_carryOut0 (l : Launch) (D : va_G) (k : Nat → ClassId) (B : Nat → Nat) (A : Nat → Nat → Nat) (V : Nat → CS) (nx sz : Nat) (sv z g : Nat → Int32)  (hn : nx < 7) (hs : sz ≤ 6) (hp : PD z) (hV : OKC (V 0)) (hf : ¬ m_X2_firstFault_r z g = (-6)) : mI l yX4_carryOut (wsY yX4_carryOut cX4_carryOut 5 (some .int)) 8 D k [.ref (B 0)] (bigW k B A V (nI nx) (nI sz) sv z g) (bigW k B A V (nI nx) (nI sz) sv (m_X2_firstFault_z z g) g) ((-3)) := by
  refine mI_intro rfl (Nat.le_of_ble_eq_true rfl) (Or.inl rfl) ?_
  intro p e s m args below meth c P Q ls X hW hl hQ
  have hx := X.hx
  have hb := X.hb
  have hl : lv_has ls 5 [(0, .ref (B 0))] := hl
  refine lv_aload_n hx hb dX4_carryOut_0 rfl (lv_at hl 0 rfl) ?_
  refine k_get X hW inG4 rfl 5 (by decide) fl_X4_37 rfl 0 rfl (v := .ref (B 5)) rfl dX4_carryOut_1 ?_
  refine kNi (As := []) (rest := []) X hW (c_X2_firstFault l D k (B 5) (B 6) z g hp) yw_X2_firstFault lkn_X4_141 ⟨Nat.le_of_ble_eq_true rfl, Nat.le_of_ble_eq_true rfl⟩ big_pullP big_pushP (k_rcv X hW (ci := 2) (q0 := 5) rfl rfl) rfl hl.1 rfl (Nat.le_of_ble_eq_true rfl) ⟨Nat.zero_le _, Nat.zero_le _⟩ dX4_carryOut_4 (fun H locs hW => ?_)
  refine lv_bipush (v := (-6)) hx hb dX4_carryOut_7 (by decide +kernel) ?_
  refine lv_icmp_eq (tgt := 15) hx hb dX4_carryOut_9 (by decide) (fun c => absurd c hf) (fun _ => ?_)
  refine lv_bipush (v := (-3)) hx hb dX4_carryOut_12 (by decide +kernel) ?_
  exact hQ _ _ _ _ _ _ hW dX4_carryOut_14 rfl rfl
set_option maxHeartbeats 4000000 in
set_option maxRecDepth 100000 in
theorem c_X4_carryOut (l : Launch) (D : va_G) (k : Nat → ClassId) (B : Nat → Nat) (A : Nat → Nat → Nat) (V : Nat → CS) (nx sz : Nat) (sv z g : Nat → Int32)  (hn : nx < 7) (hs : sz ≤ 6) (hp : PD z) (hV : OKC (V 0)) (hf : m_X2_firstFault_r z g = (-6)) : mI l yX4_carryOut (wsY yX4_carryOut cX4_carryOut 5 (some .int)) 8 D k [.ref (B 0)] (bigW k B A V (nI nx) (nI sz) sv z g) (bigW k B A (bgV V nx (ca_V V nx z g).2.1) (nI (kNx (nI (ca_V V nx z g).2.2) nx)) (nI (kSz (nI (ca_V V nx z g).2.2) sz)) sv (m_X2_clear_z (ca_V V nx z g).1) g) (nI (ca_V V nx z g).2.2) := by
  refine mI_intro rfl (Nat.le_of_ble_eq_true rfl) (Or.inl rfl) ?_
  intro p e s m args below meth c P Q ls X hW hl hQ
  have hx := X.hx
  have hb := X.hb
  have hl : lv_has ls 5 [(0, .ref (B 0))] := hl
  refine lv_aload_n hx hb dX4_carryOut_0 rfl (lv_at hl 0 rfl) ?_
  refine k_get X hW inG4 rfl 5 (by decide) fl_X4_37 rfl 0 rfl (v := .ref (B 5)) rfl dX4_carryOut_1 ?_
  obtain ⟨res, hres⟩ : ∃ res, ca_V V nx z g = res := ⟨_, rfl⟩
  rw [hres] at hQ
  obtain ⟨z1, hz1⟩ : ∃ z1, m_X2_firstFault_z z g = z1 := ⟨_, rfl⟩
  have hp1 : PD z1 := by rw [← hz1]; exact PD_X2_firstFault hp
  have hM0 := c_X2_firstFault l D k (B 5) (B 6) z g hp
  rw [hz1] at hM0
  refine kNi (As := []) (rest := []) X hW hM0 yw_X2_firstFault lkn_X4_141 ⟨Nat.le_of_ble_eq_true rfl, Nat.le_of_ble_eq_true rfl⟩ big_pullP big_pushP (k_rcv X hW (ci := 2) (q0 := 5) rfl rfl) rfl hl.1 rfl (Nat.le_of_ble_eq_true rfl) ⟨Nat.zero_le _, Nat.zero_le _⟩ dX4_carryOut_4 (fun H locs hW => ?_)
  refine lv_bipush (v := (-6)) hx hb dX4_carryOut_7 (by decide +kernel) ?_
  refine lv_icmp_eq (tgt := 15) hx hb dX4_carryOut_9 (by decide) (fun _ => ?_) (fun c => absurd hf c)
  refine lv_aload_n hx hb dX4_carryOut_15 rfl (lv_at hl 0 rfl) ?_
  refine k_get X hW inG4 rfl 4 (by decide) fl_X4_30 rfl 0 rfl (v := .ref (B 3)) rfl dX4_carryOut_16 ?_
  refine lv_aload_n hx hb dX4_carryOut_19 rfl (lv_at hl 0 rfl) ?_
  refine k_get X hW inG4 rfl 0 (by decide) fl_X4_10 rfl 0 rfl (v := .ref (A 0 0)) rfl dX4_carryOut_20 ?_
  obtain ⟨V1, hV1⟩ : ∃ V1, setC V (4 + nx) (m_X0_copyFrom_u (V (4 + nx)) (V 0)) = V1 := ⟨_, rfl⟩
  have e1 : V1 0 = V 0 := by rw [← hV1]; exact setC_n (by omega)
  have hM1 := c_X1_prepare l D k B A V nx (nI sz) sv z1 g hn hV.1 hV.2.1 hV.2.2.1 hV.2.2.2
  rw [hV1] at hM1
  refine kNv (As := [.ref (A 0 0)]) (rest := []) (wr := []) X hW hM1 yw_X1_prepare lkn_X4_41 ⟨Nat.le_of_ble_eq_true rfl, Nat.le_of_ble_eq_true rfl⟩ (List.Perm.refl _) (List.Perm.refl _) (k_rcv X hW (ci := 1) (q0 := 3) rfl rfl) rfl hl.1 rfl (Nat.le_of_ble_eq_true rfl) ⟨Nat.zero_le _, Nat.zero_le _⟩ dX4_carryOut_23 (fun H locs hW => ?_)
  refine lv_iconst (v := nI 0) hx hb dX4_carryOut_26 (by decide +kernel) ?_
  refine lv_istore_n (lv' := [(1, .int (nI 0)), (0, .ref (B 0))]) hx hb dX4_carryOut_27 rfl hl (by decide) rfl (fun ls hl => ?_)
  refine lv_iconst (v := nI 1) hx hb dX4_carryOut_28 (by decide +kernel) ?_
  refine lv_istore_n (lv' := [(2, .int (nI 1)), (1, .int (nI 0)), (0, .ref (B 0))]) hx hb dX4_carryOut_29 rfl hl (by decide) rfl (fun ls hl => ?_)
  refine lv_aload_n hx hb dX4_carryOut_30 rfl (lv_at hl 2 rfl) ?_
  refine k_get X hW inG4 rfl 5 (by decide) fl_X4_37 rfl 0 rfl (v := .ref (B 5)) rfl dX4_carryOut_31 ?_
  obtain ⟨z2, hz2⟩ : ∃ z2, m_X2_startReading_z z1 = z2 := ⟨_, rfl⟩
  have hp2 : PD z2 := by rw [← hz2]; exact PD_X2_startReading hp1
  have hM2 := c_X2_startReading l D k (B 5) (B 6) z1 g hp1
  rw [hz2] at hM2
  refine kNv (As := []) (rest := []) X hW hM2 yw_X2_startReading lkn_X4_144 ⟨Nat.le_of_ble_eq_true rfl, Nat.le_of_ble_eq_true rfl⟩ big_pullP big_pushP (k_rcv X hW (ci := 2) (q0 := 5) rfl rfl) rfl hl.1 rfl (Nat.le_of_ble_eq_true rfl) ⟨Nat.zero_le _, Nat.zero_le _⟩ dX4_carryOut_34 (fun H locs hW => ?_)
  have hres2 : res = lp_ca g 80 z2 (V 0) 0 := by rw [← hres, ca_V, hz1, hz2]
  have hW := hW.eq (show bigW k B A V1 (nI nx) (nI sz) sv z2 g = bigW k B A (setC V1 0 (V 0)) (nI nx) (nI sz) sv z2 g by rw [← e1, setC_self])
  refine lv_iconst (v := nI 0) hx hb dX4_carryOut_37 (by decide +kernel) ?_
  refine lv_istore_n (lv' := [(3, .int (nI 0)), (2, .int (nI 1)), (1, .int (nI 0)), (0, .ref (B 0))]) hx hb dX4_carryOut_38 rfl hl (by decide) rfl (fun ls hl => ?_)
  have kx : ∀ (z' : Nat → Int32) (u : CS) (n : Nat) (H : Heap) (locs : List Loc) (ls : Array Slot), PD z' → res = (z', u, n) → KW D P s (bigW k B A (setC V1 0 u) (nI nx) (nI sz) sv z' g) H locs → lv_has ls 5 [(1, .int (nI n)), (0, .ref (B 0))] → W p l e (rmD 8) s m args below meth c H locs 0 0 Q (F0 m 115 ls []) := by
    intro z' u n H locs ls hp' hr hW hl
    subst hr
    refine lv_aload_n hx hb dX4_carryOut_115 rfl (lv_at hl 1 rfl) ?_
    refine k_get X hW inG4 rfl 5 (by decide) fl_X4_37 rfl 0 rfl (v := .ref (B 5)) rfl dX4_carryOut_116 ?_
    refine kNi (As := []) (rest := []) X hW (c_X2_clear l D k (B 5) (B 6) z' g hp') yw_X2_clear lkn_X4_138 ⟨Nat.le_of_ble_eq_true rfl, Nat.le_of_ble_eq_true rfl⟩ big_pullP big_pushP (k_rcv X hW (ci := 2) (q0 := 5) rfl rfl) rfl hl.1 rfl (Nat.le_of_ble_eq_true rfl) ⟨Nat.zero_le _, Nat.zero_le _⟩ dX4_carryOut_119 (fun H locs hW => ?_)
    refine lv_pop hx hb dX4_carryOut_122 rfl ?_
    refine lv_aload_n hx hb dX4_carryOut_123 rfl (lv_at hl 1 rfl) ?_
    refine k_get X hW inG4 rfl 4 (by decide) fl_X4_30 rfl 0 rfl (v := .ref (B 3)) rfl dX4_carryOut_124 ?_
    refine lv_iload_n hx hb dX4_carryOut_127 rfl (lv_at hl 0 rfl) ?_
    have hM3 := c_X1_keepIfDone l D k B A (setC V1 0 u) nx sz sv (m_X2_clear_z z') g (nI n) hn hs
    refine kNi (As := [.int (nI n)]) (rest := []) (wr := []) X hW hM3 yw_X1_keepIfDone lkn_X4_49 ⟨Nat.le_of_ble_eq_true rfl, Nat.le_of_ble_eq_true rfl⟩ (List.Perm.refl _) (List.Perm.refl _) (k_rcv X hW (ci := 1) (q0 := 3) rfl rfl) rfl hl.1 rfl (Nat.le_of_ble_eq_true rfl) ⟨Nat.zero_le _, Nat.zero_le _⟩ dX4_carryOut_128 (fun H locs hW => ?_)
    exact hQ _ _ _ _ _ _ hW dX4_carryOut_131 rfl (by rw [bgV, hV1]; rfl)
  have k0 : ∀ (z' : Nat → Int32) (u : CS) (n i : Nat) (H : Heap) (locs : List Loc) (ls : Array Slot), PD z' → res = (z', u, n) → KW D P s (bigW k B A (setC V1 0 u) (nI nx) (nI sz) sv z' g) H locs → i ≤ 80 → lv_has ls 5 [(3, .int (nI i)), (2, .int (nI 0)), (1, .int (nI n)), (0, .ref (B 0))] → W p l e (rmD 8) s m args below meth c H locs 0 0 Q (F0 m 39 ls []) := by
    intro z' u n i H locs ls hp' hr hW hi hl
    refine lv_iload_n hx hb dX4_carryOut_39 rfl (lv_at hl 0 rfl) ?_
    refine lv_bipush (v := nI 80) hx hb dX4_carryOut_40 (by decide +kernel) ?_
    refine lv_icmp_ge (tgt := 115) hx hb dX4_carryOut_42 (by decide) (fun c_1 => ?_) (fun c_1 => ?_)
    · exact kx z' u n _ _ _ hp' hr hW (lv_sub hl [2, 3] rfl)
    · refine lv_iload_n hx hb dX4_carryOut_45 rfl (lv_at hl 1 rfl) ?_
      refine lv_if_eq (tgt := 115) hx hb dX4_carryOut_46 (by decide) (fun _ => ?_) (fun c => absurd (by decide +kernel) c)
      exact kx z' u n _ _ _ hp' hr hW (lv_sub hl [2, 3] rfl)
  have lo : ∀ (r i : Nat) (z' : Nat → Int32) (u : CS) (n : Nat) (H : Heap) (locs : List Loc) (ls : Array Slot), i + r = 80 → PD z' → CM u → res = lp_ca g r z' u n → KW D P s (bigW k B A (setC V1 0 u) (nI nx) (nI sz) sv z' g) H locs → lv_has ls 5 [(3, .int (nI i)), (2, .int (nI 1)), (1, .int (nI n)), (0, .ref (B 0))] → W p l e (rmD 8) s m args below meth c H locs 0 0 Q (F0 m 39 ls []) := by
    intro r
    induction r with
    | zero =>
      intro i z' u n H locs ls hi hp' hc hr hW hl
      refine lv_iload_n hx hb dX4_carryOut_39 rfl (lv_at hl 0 rfl) ?_
      refine lv_bipush (v := nI 80) hx hb dX4_carryOut_40 (by decide +kernel) ?_
      refine lv_icmp_ge (tgt := 115) hx hb dX4_carryOut_42 (by decide) (fun _ => ?_) (fun c => absurd ((nI_leI (by decide) (by omega)).mpr (by omega)) c)
      rw [lp_ca] at hr
      exact kx z' u n _ _ _ hp' hr hW (lv_sub hl [2, 3] rfl)
    | succ r ih =>
      intro i z' u n H locs ls hi hp' hc hr hW hl
      refine lv_iload_n hx hb dX4_carryOut_39 rfl (lv_at hl 0 rfl) ?_
      refine lv_bipush (v := nI 80) hx hb dX4_carryOut_40 (by decide +kernel) ?_
      refine lv_icmp_ge (tgt := 115) hx hb dX4_carryOut_42 (by decide) (fun c => absurd ((nI_leI (by decide) (by omega)).mp c) (by omega)) (fun _ => ?_)
      refine lv_iload_n hx hb dX4_carryOut_45 rfl (lv_at hl 1 rfl) ?_
      refine lv_if_eq (tgt := 115) hx hb dX4_carryOut_46 (by decide) (fun c => absurd c (by decide +kernel)) (fun _ => ?_)
      refine lv_aload_n hx hb dX4_carryOut_49 rfl (lv_at hl 3 rfl) ?_
      refine k_get X hW inG4 rfl 5 (by decide) fl_X4_37 rfl 0 rfl (v := .ref (B 5)) rfl dX4_carryOut_50 ?_
      obtain ⟨z3, hz3⟩ : ∃ z3, m_X2_readOrder_z z' g = z3 := ⟨_, rfl⟩
      obtain ⟨r3, hr3⟩ : ∃ r3, m_X2_readOrder_r z' g = r3 := ⟨_, rfl⟩
      have hp3 : PD z3 := by rw [← hz3]; exact PD_X2_readOrder hp'
      have hM4 := c_X2_readOrder l D k (B 5) (B 6) z' g hp'
      rw [hz3, hr3] at hM4
      rw [lp_ca, hz3, hr3] at hr
      refine kNi (As := []) (rest := []) X hW hM4 yw_X2_readOrder lkn_X4_147 ⟨Nat.le_of_ble_eq_true rfl, Nat.le_of_ble_eq_true rfl⟩ big_pullP big_pushP (k_rcv X hW (ci := 2) (q0 := 5) rfl rfl) rfl hl.1 rfl (Nat.le_of_ble_eq_true rfl) ⟨Nat.zero_le _, Nat.zero_le _⟩ dX4_carryOut_53 (fun H locs hW => ?_)
      refine lv_if_eq (tgt := 115) hx hb dX4_carryOut_56 (by decide) (fun c_1 => ?_) (fun c_1 => ?_)
      · rw [if_pos c_1] at hr
        exact kx z3 u n _ _ _ hp3 hr hW (lv_sub hl [2, 3] rfl)
      · rw [if_neg c_1] at hr
        obtain ⟨ci, hci⟩ : ∃ ci, lp_ci z3 (tn (z3 8)) u n = ci := ⟨_, rfl⟩
        rw [hci] at hr
        have hcc : CM ci.1 := by rw [← hci]; exact ci_CM z3 _ u n hc
        have hcg := ci_good z3 (tn (z3 8)) u n
        rw [hci] at hcg
        have k9 : ∀ (u' : CS) (n' gd : Nat) (H : Heap) (locs : List Loc) (ls : Array Slot), ci = (u', n', gd) → KW D P s (bigW k B A (setC V1 0 u') (nI nx) (nI sz) sv z3 g) H locs → lv_has ls 5 [(3, .int (nI i)), (2, .int (nI gd)), (1, .int (nI n')), (0, .ref (B 0))] → W p l e (rmD 8) s m args below meth c H locs 0 0 Q (F0 m 109 ls []) := by
          intro u' n' gd H locs ls hq hW hl
          subst hq
          refine lv_iinc (v := nI (i + 1)) (lv' := [(3, .int (nI (i + 1))), (2, .int (nI gd)), (1, .int (nI n')), (0, .ref (B 0))]) hx hb dX4_carryOut_109 hl (k := 0) rfl (k_inc _) (by decide) rfl (fun ls hl => ?_)
          refine lv_goto (tgt := 39) hx hb dX4_carryOut_112 (by decide) ?_
          rcases hcg with hg0 | hg1
          · rw [if_pos hg0] at hr
            have hg0 : gd = 0 := hg0
            subst hg0
            exact k0 z3 u' n' (i + 1) _ _ _ hp3 hr hW (by omega) (lv_sub hl [0, 1, 2, 3] rfl)
          · rw [if_neg (show ¬ (u', n', gd).2.2 = 0 from by rw [hg1]; decide)] at hr
            have hg1 : gd = 1 := hg1
            subst hg1
            exact ih (i + 1) z3 u' n' _ _ _ (by omega) hp3 hcc hr hW (lv_sub hl [0, 1, 2, 3] rfl)
        refine lv_iconst (v := nI 0) hx hb dX4_carryOut_59 (by decide +kernel) ?_
        refine lv_istore (lv' := [(4, .int (nI 0)), (3, .int (nI i)), (2, .int (nI 1)), (1, .int (nI n)), (0, .ref (B 0))]) hx hb dX4_carryOut_60 hl (by decide) rfl (fun ls hl => ?_)
        have li : ∀ (q t : Nat) (u' : CS) (n' : Nat) (H : Heap) (locs : List Loc) (ls : Array Slot), t + q = tn (z3 8) → CM u' → ci = lp_ci z3 q u' n' → KW D P s (bigW k B A (setC V1 0 u') (nI nx) (nI sz) sv z3 g) H locs → lv_has ls 5 [(4, .int (nI t)), (3, .int (nI i)), (2, .int (nI 1)), (1, .int (nI n')), (0, .ref (B 0))] → W p l e (rmD 8) s m args below meth c H locs 0 0 Q (F0 m 62 ls []) := by
          have h8 := tn_lt (z3 8)
          intro q
          induction q with
          | zero =>
            intro t u' n' H locs ls ht hc' hq hW hl
            refine lv_iload hx hb dX4_carryOut_62 (lv_at hl 0 rfl) ?_
            refine lv_aload_n hx hb dX4_carryOut_64 rfl (lv_at hl 4 rfl) ?_
            refine k_get X hW inG4 rfl 5 (by decide) fl_X4_37 rfl 0 rfl (v := .ref (B 5)) rfl dX4_carryOut_65 ?_
            refine k_getN X hW inG2 rfl 8 (by decide) fln_X4_151 rfl 5 rfl (v := .int (z3 8)) rfl dX4_carryOut_68 ?_
            refine lv_icmp_ge (tgt := 109) hx hb dX4_carryOut_71 (by decide) (fun _ => ?_) (fun c => absurd (k_letn (by omega) (by omega)) c)
            rw [lp_ci] at hq
            exact k9 u' n' 1 _ _ _ hq hW (lv_sub hl [1, 2, 3, 4] rfl)
          | succ q ihq =>
            intro t u' n' H locs ls ht hc' hq hW hl
            refine lv_iload hx hb dX4_carryOut_62 (lv_at hl 0 rfl) ?_
            refine lv_aload_n hx hb dX4_carryOut_64 rfl (lv_at hl 4 rfl) ?_
            refine k_get X hW inG4 rfl 5 (by decide) fl_X4_37 rfl 0 rfl (v := .ref (B 5)) rfl dX4_carryOut_65 ?_
            refine k_getN X hW inG2 rfl 8 (by decide) fln_X4_151 rfl 5 rfl (v := .int (z3 8)) rfl dX4_carryOut_68 ?_
            refine lv_icmp_ge (tgt := 109) hx hb dX4_carryOut_71 (by decide) (fun c => absurd c (k_ltnI (by omega) (by omega))) (fun _ => ?_)
            refine lv_iload_n hx hb dX4_carryOut_74 rfl (lv_at hl 2 rfl) ?_
            refine lv_if_eq (tgt := 109) hx hb dX4_carryOut_75 (by decide) (fun c => absurd c (by decide +kernel)) (fun _ => ?_)
            refine lv_aload_n hx hb dX4_carryOut_78 rfl (lv_at hl 4 rfl) ?_
            obtain ⟨u4, hu4⟩ : ∃ u4, m_X4_carryOrder_u u' z3 = u4 := ⟨_, rfl⟩
            obtain ⟨r4, hr4⟩ : ∃ r4, m_X4_carryOrder_r u' z3 = r4 := ⟨_, rfl⟩
            have hc4 : CM u4 := by rw [← hu4]; exact CM_X4_carryOrder hc'
            have hM5 := c_X4_carryOrder l D k B A V1 (nI nx) (nI sz) sv z3 g u' hc'
            rw [hu4, hr4] at hM5
            rw [lp_ci, hu4, hr4] at hq
            refine kVi (As := []) (rest := []) (wr := []) X hW hM5 yw_X4_carryOrder lk_X4_154 ⟨Nat.le_of_ble_eq_true rfl, Nat.le_of_ble_eq_true rfl⟩ (List.Perm.refl _) (List.Perm.refl _) (k_rcv X hW (ci := 4) (q0 := 0) rfl rfl) rfl hl.1 rfl (Nat.le_of_ble_eq_true rfl) ⟨Nat.zero_le _, Nat.zero_le _⟩ dX4_carryOut_79 (fun H locs hW => ?_)
            refine lv_if_lt (tgt := 89) hx hb dX4_carryOut_82 (by decide) (fun c_2 => ?_) (fun c_2 => ?_)
            · rw [if_pos c_2] at hq
              refine lv_iconst (v := nI 0) hx hb dX4_carryOut_89 (by decide +kernel) ?_
              refine lv_istore_n (lv' := [(2, .int (nI 0)), (4, .int (nI t)), (3, .int (nI i)), (1, .int (nI n')), (0, .ref (B 0))]) hx hb dX4_carryOut_90 rfl hl (by decide) rfl (fun ls hl => ?_)
              refine lv_iload_n hx hb dX4_carryOut_91 rfl (lv_at hl 3 rfl) ?_
              refine lv_iload_n hx hb dX4_carryOut_92 rfl (lv_at hl 0 rfl) ?_
              refine lv_if_eq (tgt := 100) hx hb dX4_carryOut_93 (by decide) (fun _ => ?_) (fun c => absurd (by decide +kernel) c)
              refine lv_iconst (v := nI 0) hx hb dX4_carryOut_100 (by decide +kernel) ?_
              refine lv_iadd hx hb dX4_carryOut_101 ?_
              refine k_top (y := nI n') (by rw [nI_add]; rfl) ?_
              refine lv_istore_n (lv' := [(1, .int (nI n')), (2, .int (nI 0)), (4, .int (nI t)), (3, .int (nI i)), (0, .ref (B 0))]) hx hb dX4_carryOut_102 rfl hl (by decide) rfl (fun ls hl => ?_)
              refine lv_iinc (v := nI (t + 1)) (lv' := [(4, .int (nI (t + 1))), (1, .int (nI n')), (2, .int (nI 0)), (3, .int (nI i)), (0, .ref (B 0))]) hx hb dX4_carryOut_103 hl (k := 2) rfl (k_inc _) (by decide) rfl (fun ls hl => ?_)
              refine lv_goto (tgt := 62) hx hb dX4_carryOut_106 (by decide) ?_
              refine lv_iload hx hb dX4_carryOut_62 (lv_at hl 0 rfl) ?_
              refine lv_aload_n hx hb dX4_carryOut_64 rfl (lv_at hl 4 rfl) ?_
              refine k_get X hW inG4 rfl 5 (by decide) fl_X4_37 rfl 0 rfl (v := .ref (B 5)) rfl dX4_carryOut_65 ?_
              refine k_getN X hW inG2 rfl 8 (by decide) fln_X4_151 rfl 5 rfl (v := .int (z3 8)) rfl dX4_carryOut_68 ?_
              refine lv_icmp_ge (tgt := 109) hx hb dX4_carryOut_71 (by decide) (fun c_3 => ?_) (fun c_3 => ?_)
              · exact k9 u4 n' 0 _ _ _ hq hW (lv_sub hl [3, 2, 1, 4] rfl)
              · refine lv_iload_n hx hb dX4_carryOut_74 rfl (lv_at hl 2 rfl) ?_
                refine lv_if_eq (tgt := 109) hx hb dX4_carryOut_75 (by decide) (fun _ => ?_) (fun c => absurd (by decide +kernel) c)
                exact k9 u4 n' 0 _ _ _ hq hW (lv_sub hl [3, 2, 1, 4] rfl)
            · rw [if_neg c_2] at hq
              refine lv_iconst (v := nI 1) hx hb dX4_carryOut_85 (by decide +kernel) ?_
              refine lv_goto (tgt := 90) hx hb dX4_carryOut_86 (by decide) ?_
              refine lv_istore_n (lv' := [(2, .int (nI 1)), (4, .int (nI t)), (3, .int (nI i)), (1, .int (nI n')), (0, .ref (B 0))]) hx hb dX4_carryOut_90 rfl hl (by decide) rfl (fun ls hl => ?_)
              refine lv_iload_n hx hb dX4_carryOut_91 rfl (lv_at hl 3 rfl) ?_
              refine lv_iload_n hx hb dX4_carryOut_92 rfl (lv_at hl 0 rfl) ?_
              refine lv_if_eq (tgt := 100) hx hb dX4_carryOut_93 (by decide) (fun c => absurd c (by decide +kernel)) (fun _ => ?_)
              refine lv_iconst (v := nI 1) hx hb dX4_carryOut_96 (by decide +kernel) ?_
              refine lv_goto (tgt := 101) hx hb dX4_carryOut_97 (by decide) ?_
              refine lv_iadd hx hb dX4_carryOut_101 ?_
              refine k_top (y := nI (n' + 1)) (nI_add _ _) ?_
              refine lv_istore_n (lv' := [(1, .int (nI (n' + 1))), (2, .int (nI 1)), (4, .int (nI t)), (3, .int (nI i)), (0, .ref (B 0))]) hx hb dX4_carryOut_102 rfl hl (by decide) rfl (fun ls hl => ?_)
              refine lv_iinc (v := nI (t + 1)) (lv' := [(4, .int (nI (t + 1))), (1, .int (nI (n' + 1))), (2, .int (nI 1)), (3, .int (nI i)), (0, .ref (B 0))]) hx hb dX4_carryOut_103 hl (k := 2) rfl (k_inc _) (by decide) rfl (fun ls hl => ?_)
              refine lv_goto (tgt := 62) hx hb dX4_carryOut_106 (by decide) ?_
              exact ihq (t + 1) u4 (n' + 1) _ _ _ (by omega) hc4 hq hW (lv_sub hl [0, 3, 2, 1, 4] rfl)
        exact li (tn (z3 8)) 0 u n _ _ _ (by omega) hc hci.symm hW (lv_sub hl [0, 1, 2, 3, 4] rfl)
  exact lo 80 0 z2 (V 0) 0 _ _ _ (by omega) hp2 hV.1 hres2 hW (lv_sub hl [0, 1, 2, 3] rfl)
