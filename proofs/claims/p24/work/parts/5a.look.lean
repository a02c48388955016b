/-- in how many ticks the frame j is taken, and the card behind them -/
def lp_tk (j : Nat) : Nat → Nat → CS → Int32
  | 0, _, _ => (-6)
  | r + 1, i, u => if m_X0_tick_u u 4 j = nI 1 then nI i else lp_tk j r (i + 1) (m_X0_tick_u u)
def lp_tkU (j : Nat) : Nat → CS → CS
  | 0, u => u
  | r + 1, u => if m_X0_tick_u u 4 j = nI 1 then m_X0_tick_u u else lp_tkU j r (m_X0_tick_u u)
def m_X4_takenIn_r (u p : CS) (x : Int32) : Int32 := if m_X0_hasFrame_r u x = 0 then (-1) else if u 4 (tn x) = 0 then lp_tk (tn x) 500 1 (m_X0_copyFrom_u p u) else (-5)
def m_X4_takenIn_V (V : Nat → CS) (x : Int32) : Nat → CS := if m_X0_hasFrame_r (V 0) x = 0 then V else if V 0 4 (tn x) = 0 then setC V 1 (lp_tkU (tn x) 500 (m_X0_copyFrom_u (V 1) (V 0))) else V
set_option maxHeartbeats 4000000 in
set_option maxRecDepth 100000 in
theorem c_X4_takenIn (l : Launch) (D : va_G) (k : Nat → ClassId) (B : Nat → Nat) (A : Nat → Nat → Nat) (V : Nat → CS) (nx sz : Int32) (sv z g : Nat → Int32) (x : Int32) (hV : OKC (V 0)) : mI l yX4_takenIn (wsY yX4_takenIn cX4_takenIn 3 (some .int)) 5 D k [.ref (B 0), .int x] (bigW k B A V nx sz sv z g) (bigW k B A (m_X4_takenIn_V V x) nx sz sv z g) (m_X4_takenIn_r (V 0) (V 1) x) := by
  refine mI_intro rfl (Nat.le_of_ble_eq_true rfl) (Or.inl rfl) ?_
  intro p e s m args below meth c P Q ls X hW hl hQ
  have hx := X.hx
  have hb := X.hb
  have hl : lv_has ls 3 [(0, .ref (B 0)), (1, .int x)] := hl
  refine lv_aload_n hx hb dX4_takenIn_0 rfl (lv_at hl 0 rfl) ?_
  refine k_get X hW inG4 rfl 0 (by decide) fl_X4_10 rfl 0 rfl (v := .ref (A 0 0)) rfl dX4_takenIn_1 ?_
  refine lv_iload_n hx hb dX4_takenIn_4 rfl (lv_at hl 1 rfl) ?_
  obtain ⟨wr, hp⟩ := pull1 (big_mem (k := k) (B := B) (A := A) (V := V) (nx := nx) (sz := sz) (sv := sv) (z := z) (g := g) (i := 0) (by decide))
  refine kNi (As := [.int x]) (rest := []) X hW (c_X0_hasFrame l D k (A 0) (V 0) x) yw_X0_hasFrame lkn_X4_82 ⟨Nat.le_of_ble_eq_true rfl, Nat.le_of_ble_eq_true rfl⟩ hp hp.symm (big_rcv X hW (by decide)) rfl hl.1 rfl (Nat.le_of_ble_eq_true rfl) ⟨Nat.zero_le _, Nat.zero_le _⟩ dX4_takenIn_5 (fun H locs hW => ?_)
  refine lv_if_ne (tgt := 13) hx hb dX4_takenIn_8 (by decide) (fun c_1 => ?_) (fun c_1 => ?_)
  · obtain ⟨j, hj, hjc, rfl⟩ := hfj hV.1 c_1
    have ej : tn (nI j) = j := tn_of rfl (by omega)
    refine lv_aload_n hx hb dX4_takenIn_13 rfl (lv_at hl 0 rfl) ?_
    refine k_get X hW inG4 rfl 0 (by decide) fl_X4_10 rfl 0 rfl (v := .ref (A 0 0)) rfl dX4_takenIn_14 ?_
    refine k_getN X hW inG0 rfl 6 (by decide) fln_X4_119 rfl 7 rfl (v := .ref (A 0 5)) rfl dX4_takenIn_17 ?_
    refine lv_iload_n hx hb dX4_takenIn_20 rfl (lv_at hl 1 rfl) ?_
    refine k_iald X hW 12 rfl (j := j) (v := V 0 4 j) rfl hj (by decide) rfl dX4_takenIn_21 ?_
    refine lv_if_eq (tgt := 28) hx hb dX4_takenIn_22 (by decide) (fun c_2 => ?_) (fun c_2 => ?_)
    · refine lv_aload_n hx hb dX4_takenIn_28 rfl (lv_at hl 0 rfl) ?_
      refine k_get X hW inG4 rfl 1 (by decide) fl_X4_16 rfl 0 rfl (v := .ref (A 1 0)) rfl dX4_takenIn_29 ?_
      refine lv_aload_n hx hb dX4_takenIn_32 rfl (lv_at hl 0 rfl) ?_
      refine k_get X hW inG4 rfl 0 (by decide) fl_X4_10 rfl 0 rfl (v := .ref (A 0 0)) rfl dX4_takenIn_33 ?_
      obtain ⟨p0, hp0⟩ : ∃ p0, m_X0_copyFrom_u (V 1) (V 0) = p0 := ⟨_, rfl⟩
      have hc0 : CM p0 := by rw [← hp0]; exact CM_X0_copyFrom hV.1
      have hM := c_X0_copyFrom l D k (A 1) (A 0) (V 1) (V 0) hV.1 hV.2.1 hV.2.2.1 hV.2.2.2
      rw [hp0] at hM
      refine kNv (As := [.ref (A 0 0)]) (rest := []) X hW hM yw_X0_copyFrom lkn_X4_122 ⟨Nat.le_of_ble_eq_true rfl, Nat.le_of_ble_eq_true rfl⟩ (big_pull2 (i := 1) (j := 0) (by decide) (by decide) (by decide)) (big_push2 (by decide) (by decide) (by decide)) (big_rcv X hW (by decide)) rfl hl.1 rfl (Nat.le_of_ble_eq_true rfl) ⟨Nat.zero_le _, Nat.zero_le _⟩ dX4_takenIn_36 (fun H locs hW => ?_)
      have hr : m_X4_takenIn_r (V 0) (V 1) (nI j) = lp_tk j 500 1 p0 := by rw [m_X4_takenIn_r, if_neg c_1, ej, if_pos c_2, hp0]
      have hu : m_X4_takenIn_V V (nI j) = setC V 1 (lp_tkU j 500 p0) := by rw [m_X4_takenIn_V, if_neg c_1, ej, if_pos c_2, hp0]
      refine lv_iconst (v := nI 1) hx hb dX4_takenIn_39 (by decide +kernel) ?_
      refine lv_istore_n (lv' := [(2, .int (nI 1)), (0, .ref (B 0)), (1, .int (nI j))]) hx hb dX4_takenIn_40 rfl hl (by decide) rfl (fun ls hl => ?_)
      have lp : ∀ (r i : Nat) (pr : CS) (H : Heap) (locs : List Loc) (ls : Array Slot), i + r = 501 → CM pr → m_X4_takenIn_r (V 0) (V 1) (nI j) = lp_tk j r i pr → m_X4_takenIn_V V (nI j) = setC V 1 (lp_tkU j r pr) → KW D P s (bigW k B A (setC V 1 pr) nx sz sv z g) H locs → lv_has ls 3 [(2, .int (nI i)), (1, .int (nI j)), (0, .ref (B 0))] → W p l e (rmD 5) s m args below meth c H locs 0 0 Q (F0 m 41 ls []) := by
        intro r
        induction r with
        | zero =>
          intro i pr H locs ls hi hc hr hu hW hl
          refine lv_iload_n hx hb dX4_takenIn_41 rfl (lv_at hl 0 rfl) ?_
          refine lv_sipush (v := nI 500) hx hb dX4_takenIn_42 (by decide +kernel) ?_
          refine lv_icmp_gt (tgt := 77) hx hb dX4_takenIn_45 (by decide) (fun _ => ?_) (fun c => absurd ((nI_ltI (by decide) (by omega)).mpr (by omega)) c)
          refine lv_bipush (v := (-6)) hx hb dX4_takenIn_77 (by decide +kernel) ?_
          exact hQ _ _ _ _ _ _ hW dX4_takenIn_79 (by rw [hr, lp_tk]) (by rw [hu, lp_tkU])
        | succ r ih =>
          intro i pr H locs ls hi hc hr hu hW hl
          refine lv_iload_n hx hb dX4_takenIn_41 rfl (lv_at hl 0 rfl) ?_
          refine lv_sipush (v := nI 500) hx hb dX4_takenIn_42 (by decide +kernel) ?_
          refine lv_icmp_gt (tgt := 77) hx hb dX4_takenIn_45 (by decide) (fun c => absurd ((nI_ltI (by decide) (by omega)).mp c) (by omega)) (fun _ => ?_)
          refine lv_aload_n hx hb dX4_takenIn_48 rfl (lv_at hl 2 rfl) ?_
          refine k_get X hW inG4 rfl 1 (by decide) fl_X4_16 rfl 0 rfl (v := .ref (A 1 0)) rfl dX4_takenIn_49 ?_
          obtain ⟨p1, hp1⟩ : ∃ p1, m_X0_tick_u pr = p1 := ⟨_, rfl⟩
          obtain ⟨t1, ht1⟩ : ∃ t1, m_X0_tick_r pr = t1 := ⟨_, rfl⟩
          have hM2 := c_X0_tick l D k (A 1) pr hc
          rw [hp1, ht1] at hM2
          have hc1 : CM p1 := by rw [← hp1]; exact CM_X0_tick hc
          refine kNi (As := []) (rest := []) X hW hM2 yw_X0_tick lkn_X4_125 ⟨Nat.le_of_ble_eq_true rfl, Nat.le_of_ble_eq_true rfl⟩ big_out1 big_in1 (big_rcv X hW (by decide)) rfl hl.1 rfl (Nat.le_of_ble_eq_true rfl) ⟨Nat.zero_le _, Nat.zero_le _⟩ dX4_takenIn_52 (fun H locs hW => ?_)
          refine lv_pop hx hb dX4_takenIn_55 rfl ?_
          refine lv_aload_n hx hb dX4_takenIn_56 rfl (lv_at hl 2 rfl) ?_
          refine k_get X hW inG4 rfl 1 (by decide) fl_X4_16 rfl 0 rfl (v := .ref (A 1 0)) rfl dX4_takenIn_57 ?_
          refine k_getN X hW inG0 rfl 6 (by decide) fln_X4_119 rfl 17 rfl (v := .ref (A 1 5)) rfl dX4_takenIn_60 ?_
          refine lv_iload_n hx hb dX4_takenIn_63 rfl (lv_at hl 1 rfl) ?_
          refine k_iald X hW 22 rfl (j := j) (v := p1 4 j) rfl hj (by decide) rfl dX4_takenIn_64 ?_
          refine lv_iconst (v := nI 1) hx hb dX4_takenIn_65 (by decide +kernel) ?_
          refine lv_icmp_ne (tgt := 71) hx hb dX4_takenIn_66 (by decide) (fun c_3 => ?_) (fun c_3 => ?_)
          · refine lv_iinc (v := nI (i + 1)) (lv' := [(2, .int (nI (i + 1))), (1, .int (nI j)), (0, .ref (B 0))]) hx hb dX4_takenIn_71 hl (k := 0) rfl (k_inc _) (by decide) rfl (fun ls hl => ?_)
            refine lv_goto (tgt := 41) hx hb dX4_takenIn_74 (by decide) ?_
            exact ih (i + 1) p1 _ _ _ (by omega) hc1 (by rw [hr, lp_tk, hp1, if_neg c_3]) (by rw [hu, lp_tkU, hp1, if_neg c_3]) hW hl
          · refine lv_iload_n hx hb dX4_takenIn_69 rfl (lv_at hl 0 rfl) ?_
            exact hQ _ _ _ _ _ _ hW dX4_takenIn_70 (by rw [hr, lp_tk, hp1, if_pos c_3]) (by rw [hu, lp_tkU, hp1, if_pos c_3])
      exact lp 500 1 p0 _ _ _ (by omega) hc0 hr hu hW (lv_sub hl [0, 2, 1] rfl)
    · refine lv_bipush (v := (-5)) hx hb dX4_takenIn_25 (by decide +kernel) ?_
      exact hQ _ _ _ _ _ _ hW dX4_takenIn_27 (by rw [m_X4_takenIn_r, if_neg c_1, ej, if_neg c_2]) (by rw [m_X4_takenIn_V, if_neg c_1, ej, if_neg c_2])
  · refine lv_iconst (v := (-1)) hx hb dX4_takenIn_11 (by decide +kernel) ?_
    exact hQ _ _ _ _ _ _ hW dX4_takenIn_12 (by rw [m_X4_takenIn_r, if_pos c_1]) (by rw [m_X4_takenIn_V, if_pos c_1])
def wd_r (u p : CS) (w : Int32) : Int32 := if w = nI 0 then m_X0_total_r p (nI 7) - m_X0_total_r u (nI 7) else if w = nI 1 then m_X0_total_r p (nI 6) - m_X0_total_r u (nI 6) else if w = nI 2 then m_X0_total_r p (nI 9) - m_X0_total_r u (nI 9) else m_X0_total_r p (nI 3)
def m_X4_would_r (u p : CS) (x w : Int32) : Int32 := if x < nI 1 then (-2) else if nI 99 < x then (-2) else if w < 0 then (-2) else if w ≤ nI 3 then wd_r u (lp_run (tn x) (m_X0_copyFrom_u p u)) w else (-2)
def m_X4_would_V (V : Nat → CS) (x w : Int32) : Nat → CS := if x < nI 1 then V else if nI 99 < x then V else if w < 0 then V else if w ≤ nI 3 then setC V 1 (lp_run (tn x) (m_X0_copyFrom_u (V 1) (V 0))) else V
set_option maxHeartbeats 4000000 in
set_option maxRecDepth 100000 in
theorem c_X4_would (l : Launch) (D : va_G) (k : Nat → ClassId) (B : Nat → Nat) (A : Nat → Nat → Nat) (V : Nat → CS) (nx sz : Int32) (sv z g : Nat → Int32) (x w : Int32) (hV : OKC (V 0)) : mI l yX4_would (wsY yX4_would cX4_would 3 (some .int)) 6 D k [.ref (B 0), .int x, .int w] (bigW k B A V nx sz sv z g) (bigW k B A (m_X4_would_V V x w) nx sz sv z g) (m_X4_would_r (V 0) (V 1) x w) := by
  refine mI_intro rfl (Nat.le_of_ble_eq_true rfl) (Or.inl rfl) ?_
  intro p e s m args below meth c P Q ls X hW hl hQ
  have hx := X.hx
  have hb := X.hb
  have hl : lv_has ls 3 [(0, .ref (B 0)), (1, .int x), (2, .int w)] := hl
  refine lv_iload_n hx hb dX4_would_0 rfl (lv_at hl 1 rfl) ?_
  refine lv_iconst (v := nI 1) hx hb dX4_would_1 (by decide +kernel) ?_
  refine lv_icmp_lt (tgt := 20) hx hb dX4_would_2 (by decide) (fun c_1 => ?_) (fun c_1 => ?_)
  · refine lv_bipush (v := (-2)) hx hb dX4_would_20 (by decide +kernel) ?_
    exact hQ _ _ _ _ _ _ hW dX4_would_22 (by rw [m_X4_would_r, if_pos c_1]) (by rw [m_X4_would_V, if_pos c_1])
  · refine lv_iload_n hx hb dX4_would_5 rfl (lv_at hl 1 rfl) ?_
    refine lv_bipush (v := nI 99) hx hb dX4_would_6 (by decide +kernel) ?_
    refine lv_icmp_gt (tgt := 20) hx hb dX4_would_8 (by decide) (fun c_2 => ?_) (fun c_2 => ?_)
    · refine lv_bipush (v := (-2)) hx hb dX4_would_20 (by decide +kernel) ?_
      exact hQ _ _ _ _ _ _ hW dX4_would_22 (by rw [m_X4_would_r, if_neg c_1, if_pos c_2]) (by rw [m_X4_would_V, if_neg c_1, if_pos c_2])
    · refine lv_iload_n hx hb dX4_would_11 rfl (lv_at hl 2 rfl) ?_
      refine lv_if_lt (tgt := 20) hx hb dX4_would_12 (by decide) (fun c_3 => ?_) (fun c_3 => ?_)
      · refine lv_bipush (v := (-2)) hx hb dX4_would_20 (by decide +kernel) ?_
        exact hQ _ _ _ _ _ _ hW dX4_would_22 (by rw [m_X4_would_r, if_neg c_1, if_neg c_2, if_pos c_3]) (by rw [m_X4_would_V, if_neg c_1, if_neg c_2, if_pos c_3])
      · refine lv_iload_n hx hb dX4_would_15 rfl (lv_at hl 2 rfl) ?_
        refine lv_iconst (v := nI 3) hx hb dX4_would_16 (by decide +kernel) ?_
        refine lv_icmp_le (tgt := 23) hx hb dX4_would_17 (by decide) (fun c_4 => ?_) (fun c_4 => ?_)
        · have ex := k_ge1 c_1
          have hr : m_X4_would_r (V 0) (V 1) x w = wd_r (V 0) (lp_run (tn x) (m_X0_copyFrom_u (V 1) (V 0))) w := by rw [m_X4_would_r, if_neg c_1, if_neg c_2, if_neg c_3, if_pos c_4]
          have hu : m_X4_would_V V x w = setC V 1 (lp_run (tn x) (m_X0_copyFrom_u (V 1) (V 0))) := by rw [m_X4_would_V, if_neg c_1, if_neg c_2, if_neg c_3, if_pos c_4]
          refine lv_aload_n hx hb dX4_would_23 rfl (lv_at hl 0 rfl) ?_
          refine k_get X hW inG4 rfl 1 (by decide) fl_X4_16 rfl 0 rfl (v := .ref (A 1 0)) rfl dX4_would_24 ?_
          refine lv_aload_n hx hb dX4_would_27 rfl (lv_at hl 0 rfl) ?_
          refine k_get X hW inG4 rfl 0 (by decide) fl_X4_10 rfl 0 rfl (v := .ref (A 0 0)) rfl dX4_would_28 ?_
          obtain ⟨p0, hp0⟩ : ∃ p0, m_X0_copyFrom_u (V 1) (V 0) = p0 := ⟨_, rfl⟩
          have hc0 : CM p0 := by rw [← hp0]; exact CM_X0_copyFrom hV.1
          have hM := c_X0_copyFrom l D k (A 1) (A 0) (V 1) (V 0) hV.1 hV.2.1 hV.2.2.1 hV.2.2.2
          rw [hp0] at hM hr hu
          refine kNv (As := [.ref (A 0 0)]) (rest := []) X hW hM yw_X0_copyFrom lkn_X4_122 ⟨Nat.le_of_ble_eq_true rfl, Nat.le_of_ble_eq_true rfl⟩ (big_pull2 (i := 1) (j := 0) (by decide) (by decide) (by decide)) (big_push2 (by decide) (by decide) (by decide)) (big_rcv X hW (by decide)) rfl hl.1 rfl (Nat.le_of_ble_eq_true rfl) ⟨Nat.zero_le _, Nat.zero_le _⟩ dX4_would_31 (fun H locs hW => ?_)
          refine lv_aload_n hx hb dX4_would_34 rfl (lv_at hl 0 rfl) ?_
          refine k_get X hW inG4 rfl 1 (by decide) fl_X4_16 rfl 0 rfl (v := .ref (A 1 0)) rfl dX4_would_35 ?_
          refine lv_iload_n hx hb dX4_would_38 rfl (lv_at hl 1 rfl) ?_
          refine k_top (y := nI (tn x)) ex ?_
          obtain ⟨p1, hp1⟩ : ∃ p1, lp_run (tn x) p0 = p1 := ⟨_, rfl⟩
          obtain ⟨t1, ht1⟩ : ∃ t1, m_X0_runTicks_r p0 (tn x) = t1 := ⟨_, rfl⟩
          have hM2 := c_X0_runTicks l D k (A 1) p0 (tn x) hc0 (tn_lt x)
          rw [m_X0_runTicks_u, hp1, ht1] at hM2
          rw [hp1] at hr hu
          refine kNi (As := [.int (nI (tn x))]) (rest := []) X hW hM2 yw_X0_runTicks lkn_X4_128 ⟨Nat.le_of_ble_eq_true rfl, Nat.le_of_ble_eq_true rfl⟩ big_out1 big_in1 (big_rcv X hW (by decide)) rfl hl.1 rfl (Nat.le_of_ble_eq_true rfl) ⟨Nat.zero_le _, Nat.zero_le _⟩ dX4_would_39 (fun H locs hW => ?_)
          refine lv_pop hx hb dX4_would_42 rfl ?_
          refine lv_iload_n hx hb dX4_would_43 rfl (lv_at hl 2 rfl) ?_
          by_cases d_0 : w = nI 0
          · refine lv_tableIn (off := 28) (tgt := 72) hx hb dX4_would_44 (by rw [d_0]; decide +kernel) (by rw [d_0]; decide +kernel) (by rw [d_0]; decide +kernel) (by decide) ?_
            refine lv_aload_n hx hb dX4_would_72 rfl (lv_at hl 0 rfl) ?_
            refine k_get X hW inG4 rfl 1 (by decide) fl_X4_16 rfl 0 rfl (v := .ref (A 1 0)) rfl dX4_would_73 ?_
            refine lv_bipush (v := nI 7) hx hb dX4_would_76 (by decide +kernel) ?_
            refine kNi (As := [.int (nI 7)]) (rest := []) X hW (c_X0_total l D k (A 1) p1 (nI 7)) yw_X0_total lkn_X4_98 ⟨Nat.le_of_ble_eq_true rfl, Nat.le_of_ble_eq_true rfl⟩ big_out1 big_in1 (big_rcv X hW (by decide)) rfl hl.1 rfl (Nat.le_of_ble_eq_true rfl) ⟨Nat.zero_le _, Nat.zero_le _⟩ dX4_would_78 (fun H locs hW => ?_)
            refine lv_aload_n hx hb dX4_would_81 rfl (lv_at hl 0 rfl) ?_
            refine k_get X hW inG4 rfl 0 (by decide) fl_X4_10 rfl 0 rfl (v := .ref (A 0 0)) rfl dX4_would_82 ?_
            refine lv_bipush (v := nI 7) hx hb dX4_would_85 (by decide +kernel) ?_
            refine kNi (As := [.int (nI 7)]) (rest := [.int (m_X0_total_r p1 (nI 7))]) X hW (c_X0_total l D k (A 0) (V 0) (nI 7)) yw_X0_total lkn_X4_98 ⟨Nat.le_of_ble_eq_true rfl, Nat.le_of_ble_eq_true rfl⟩ big_0of1 big_0of1.symm (big_rcv X hW (by decide)) rfl hl.1 rfl (Nat.le_of_ble_eq_true rfl) ⟨Nat.zero_le _, Nat.zero_le _⟩ dX4_would_87 (fun H locs hW => ?_)
            refine lv_isub hx hb dX4_would_90 ?_
            exact hQ _ _ _ _ _ _ hW dX4_would_91 (by rw [hr, wd_r, if_pos d_0]) (by rw [hu])
          by_cases d_1 : w = nI 1
          · refine lv_tableIn (off := 48) (tgt := 92) hx hb dX4_would_44 (by rw [d_1]; decide +kernel) (by rw [d_1]; decide +kernel) (by rw [d_1]; decide +kernel) (by decide) ?_
            refine lv_aload_n hx hb dX4_would_92 rfl (lv_at hl 0 rfl) ?_
            refine k_get X hW inG4 rfl 1 (by decide) fl_X4_16 rfl 0 rfl (v := .ref (A 1 0)) rfl dX4_would_93 ?_
            refine lv_bipush (v := nI 6) hx hb dX4_would_96 (by decide +kernel) ?_
            refine kNi (As := [.int (nI 6)]) (rest := []) X hW (c_X0_total l D k (A 1) p1 (nI 6)) yw_X0_total lkn_X4_98 ⟨Nat.le_of_ble_eq_true rfl, Nat.le_of_ble_eq_true rfl⟩ big_out1 big_in1 (big_rcv X hW (by decide)) rfl hl.1 rfl (Nat.le_of_ble_eq_true rfl) ⟨Nat.zero_le _, Nat.zero_le _⟩ dX4_would_98 (fun H locs hW => ?_)
            refine lv_aload_n hx hb dX4_would_101 rfl (lv_at hl 0 rfl) ?_
            refine k_get X hW inG4 rfl 0 (by decide) fl_X4_10 rfl 0 rfl (v := .ref (A 0 0)) rfl dX4_would_102 ?_
            refine lv_bipush (v := nI 6) hx hb dX4_would_105 (by decide +kernel) ?_
            refine kNi (As := [.int (nI 6)]) (rest := [.int (m_X0_total_r p1 (nI 6))]) X hW (c_X0_total l D k (A 0) (V 0) (nI 6)) yw_X0_total lkn_X4_98 ⟨Nat.le_of_ble_eq_true rfl, Nat.le_of_ble_eq_true rfl⟩ big_0of1 big_0of1.symm (big_rcv X hW (by decide)) rfl hl.1 rfl (Nat.le_of_ble_eq_true rfl) ⟨Nat.zero_le _, Nat.zero_le _⟩ dX4_would_107 (fun H locs hW => ?_)
            refine lv_isub hx hb dX4_would_110 ?_
            exact hQ _ _ _ _ _ _ hW dX4_would_111 (by rw [hr, wd_r, if_neg d_0, if_pos d_1]) (by rw [hu])
          by_cases d_2 : w = nI 2
          · refine lv_tableIn (off := 68) (tgt := 112) hx hb dX4_would_44 (by rw [d_2]; decide +kernel) (by rw [d_2]; decide +kernel) (by rw [d_2]; decide +kernel) (by decide) ?_
            refine lv_aload_n hx hb dX4_would_112 rfl (lv_at hl 0 rfl) ?_
            refine k_get X hW inG4 rfl 1 (by decide) fl_X4_16 rfl 0 rfl (v := .ref (A 1 0)) rfl dX4_would_113 ?_
            refine lv_bipush (v := nI 9) hx hb dX4_would_116 (by decide +kernel) ?_
            refine kNi (As := [.int (nI 9)]) (rest := []) X hW (c_X0_total l D k (A 1) p1 (nI 9)) yw_X0_total lkn_X4_98 ⟨Nat.le_of_ble_eq_true rfl, Nat.le_of_ble_eq_true rfl⟩ big_out1 big_in1 (big_rcv X hW (by decide)) rfl hl.1 rfl (Nat.le_of_ble_eq_true rfl) ⟨Nat.zero_le _, Nat.zero_le _⟩ dX4_would_118 (fun H locs hW => ?_)
            refine lv_aload_n hx hb dX4_would_121 rfl (lv_at hl 0 rfl) ?_
            refine k_get X hW inG4 rfl 0 (by decide) fl_X4_10 rfl 0 rfl (v := .ref (A 0 0)) rfl dX4_would_122 ?_
            refine lv_bipush (v := nI 9) hx hb dX4_would_125 (by decide +kernel) ?_
            refine kNi (As := [.int (nI 9)]) (rest := [.int (m_X0_total_r p1 (nI 9))]) X hW (c_X0_total l D k (A 0) (V 0) (nI 9)) yw_X0_total lkn_X4_98 ⟨Nat.le_of_ble_eq_true rfl, Nat.le_of_ble_eq_true rfl⟩ big_0of1 big_0of1.symm (big_rcv X hW (by decide)) rfl hl.1 rfl (Nat.le_of_ble_eq_true rfl) ⟨Nat.zero_le _, Nat.zero_le _⟩ dX4_would_127 (fun H locs hW => ?_)
            refine lv_isub hx hb dX4_would_130 ?_
            exact hQ _ _ _ _ _ _ hW dX4_would_131 (by rw [hr, wd_r, if_neg d_0, if_neg d_1, if_pos d_2]) (by rw [hu])
          refine lv_tableOut (tgt := 132) hx hb dX4_would_44 (k_sw2 d_0 d_1 d_2) (by decide) ?_
          refine lv_aload_n hx hb dX4_would_132 rfl (lv_at hl 0 rfl) ?_
          refine k_get X hW inG4 rfl 1 (by decide) fl_X4_16 rfl 0 rfl (v := .ref (A 1 0)) rfl dX4_would_133 ?_
          refine lv_iconst (v := nI 3) hx hb dX4_would_136 (by decide +kernel) ?_
          refine kNi (As := [.int (nI 3)]) (rest := []) X hW (c_X0_total l D k (A 1) p1 (nI 3)) yw_X0_total lkn_X4_98 ⟨Nat.le_of_ble_eq_true rfl, Nat.le_of_ble_eq_true rfl⟩ big_out1 big_in1 (big_rcv X hW (by decide)) rfl hl.1 rfl (Nat.le_of_ble_eq_true rfl) ⟨Nat.zero_le _, Nat.zero_le _⟩ dX4_would_137 (fun H locs hW => ?_)
          exact hQ _ _ _ _ _ _ hW dX4_would_140 (by rw [hr, wd_r, if_neg d_0, if_neg d_1, if_neg d_2]) (by rw [hu])
        · refine lv_bipush (v := (-2)) hx hb dX4_would_20 (by decide +kernel) ?_
          exact hQ _ _ _ _ _ _ hW dX4_would_22 (by rw [m_X4_would_r, if_neg c_1, if_neg c_2, if_neg c_3, if_neg c_4]) (by rw [m_X4_would_V, if_neg c_1, if_neg c_2, if_neg c_3, if_neg c_4])
