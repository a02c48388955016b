set_option maxHeartbeats 4000000 in
set_option maxRecDepth 100000 in
theorem c_X1_prepare (l : Launch) (D : va_G) (k : Nat → ClassId) (B : Nat → Nat) (A : Nat → Nat → Nat) (V : Nat → CS) (nx : Nat) (sz : Int32) (sv z g : Nat → Int32) (hn : nx < 7) (hc : CM (V 0)) (hb0 : BB (V 0 6 4)) (hb1 : BB (V 0 7 4)) (hb2 : BB (V 0 8 4)) : mV l yX1_prepare (wsY yX1_prepare cX1_prepare 2 none) 2 D k [.ref (B 3), .ref (A 0 0)] (bigW k B A V (nI nx) sz sv z g) (bigW k B A (setC V (4 + nx) (m_X0_copyFrom_u (V (4 + nx)) (V 0))) (nI nx) sz sv z g) := by
  refine mV_intro rfl (Nat.le_of_ble_eq_true rfl) ?_
  intro p e s m args below meth c P Q ls X hW hl hQ
  have hx := X.hx
  have hb := X.hb
  have hl : lv_has ls 2 [(0, .ref (B 3)), (1, .ref (A 0 0))] := hl
  refine lv_aload_n hx hb dX1_prepare_0 rfl (lv_at hl 0 rfl) ?_
  refine k_get X hW inG1 rfl 0 (by decide) fl_X1_13 rfl 3 rfl (v := .ref (B 4)) rfl dX1_prepare_1 ?_
  refine lv_aload_n hx hb dX1_prepare_4 rfl (lv_at hl 0 rfl) ?_
  refine k_get X hW inG1 rfl 1 (by decide) fl_X1_17 rfl 3 rfl (v := .int (nI nx)) rfl dX1_prepare_5 ?_
  refine k_aald X hW 4 4 (b := A (4 + nx) 0) rfl rfl rfl hn (by decide) rfl dX1_prepare_8 ?_
  refine lv_aload_n hx hb dX1_prepare_9 rfl (lv_at hl 1 rfl) ?_
  refine kNv (As := [.ref (A 0 0)]) (rest := []) X hW (c_X0_copyFrom l D k (A (4 + nx)) (A 0) (V (4 + nx)) (V 0) hc hb0 hb1 hb2) yw_X0_copyFrom lkn_X1_25 ⟨Nat.le_of_ble_eq_true rfl, Nat.le_of_ble_eq_true rfl⟩ (big_pull2 (i := 4 + nx) (j := 0) (by omega) (by decide) (by omega)) (big_push2 (by omega) (by decide) (by omega)) (big_rcv X hW (by omega)) rfl hl.1 rfl (Nat.le_of_ble_eq_true rfl) ⟨Nat.zero_le _, Nat.zero_le _⟩ dX1_prepare_10 (fun H locs hW => ?_)
  exact hQ _ _ _ _ _ hW dX1_prepare_13 rfl
/-- the place of the next state, and how many there are, behind a change that answered x -/
def kNx (x : Int32) (nx : Nat) : Nat := if x < 0 then nx else (nx + 1) % 7
def kSz (x : Int32) (sz : Nat) : Nat := if x < 0 then sz else if sz = 6 then 6 else sz + 1
theorem k_min6 {sz : Nat} (h : sz ≤ 6) : (if nI 6 < nI (sz + 1) then nI 6 else nI (sz + 1)) = nI (if sz = 6 then 6 else sz + 1) := by
  rcases (by omega : sz = 0 ∨ sz = 1 ∨ sz = 2 ∨ sz = 3 ∨ sz = 4 ∨ sz = 5 ∨ sz = 6) with rfl | rfl | rfl | rfl | rfl | rfl | rfl <;> decide +kernel
set_option maxHeartbeats 4000000 in
set_option maxRecDepth 100000 in
theorem c_X1_keepIfDone (l : Launch) (D : va_G) (k : Nat → ClassId) (B : Nat → Nat) (A : Nat → Nat → Nat) (V : Nat → CS) (nx sz : Nat) (sv z g : Nat → Int32) (x : Int32) (hn : nx < 7) (hs : sz ≤ 6) : mI l yX1_keepIfDone (wsY yX1_keepIfDone cX1_keepIfDone 2 (some .int)) 1 D k [.ref (B 3), .int x] (bigW k B A V (nI nx) (nI sz) sv z g) (bigW k B A V (nI (kNx x nx)) (nI (kSz x sz)) sv z g) x := by
  refine mI_intro rfl (Nat.le_of_ble_eq_true rfl) (Or.inl rfl) ?_
  intro p e s m args below meth c P Q ls X hW hl hQ
  have hx := X.hx
  have hb := X.hb
  have hl : lv_has ls 2 [(0, .ref (B 3)), (1, .int x)] := hl
  refine lv_iload_n hx hb dX1_keepIfDone_0 rfl (lv_at hl 1 rfl) ?_
  refine lv_if_lt (tgt := 32) hx hb dX1_keepIfDone_1 (by decide) (fun c_1 => ?_) (fun c_1 => ?_)
  · refine lv_iload_n hx hb dX1_keepIfDone_32 rfl (lv_at hl 1 rfl) ?_
    exact hQ _ _ _ _ _ _ hW dX1_keepIfDone_33 rfl (by rw [kNx, kSz, if_pos c_1, if_pos c_1])
  · refine lv_aload_n hx hb dX1_keepIfDone_4 rfl (lv_at hl 0 rfl) ?_
    refine lv_aload_n hx hb dX1_keepIfDone_5 rfl (lv_at hl 0 rfl) ?_
    refine k_get X hW inG1 rfl 1 (by decide) fl_X1_17 rfl 3 rfl (v := .int (nI nx)) rfl dX1_keepIfDone_6 ?_
    refine lv_iconst (v := nI 1) hx hb dX1_keepIfDone_9 (by decide +kernel) ?_
    refine lv_iadd hx hb dX1_keepIfDone_10 ?_
    refine lv_bipush (v := nI 7) hx hb dX1_keepIfDone_11 (by decide +kernel) ?_
    refine lv_irem hx hb dX1_keepIfDone_13 (by decide +kernel) ?_
    refine k_top (y := nI ((nx + 1) % 7)) (by rw [nI_add]; exact pk_rem (by omega) (by decide) (by decide)) ?_
    refine k_put X hW inG1 rfl tyX1_ok nmX1 1 (by decide) fl_X1_17 rfl rfl 3 rfl rfl rfl (Nat.le_of_ble_eq_true rfl) dX1_keepIfDone_14 (w' := bigW k B A V (nI ((nx + 1) % 7)) (nI sz) sv z g) rfl (fun H locs hW => ?_)
    refine lv_aload_n hx hb dX1_keepIfDone_17 rfl (lv_at hl 0 rfl) ?_
    refine lv_aload_n hx hb dX1_keepIfDone_18 rfl (lv_at hl 0 rfl) ?_
    refine k_get X hW inG1 rfl 2 (by decide) fl_X1_21 rfl 3 rfl (v := .int (nI sz)) rfl dX1_keepIfDone_19 ?_
    refine lv_iconst (v := nI 1) hx hb dX1_keepIfDone_22 (by decide +kernel) ?_
    refine lv_iadd hx hb dX1_keepIfDone_23 ?_
    refine k_top (y := nI (sz + 1)) (nI_add _ _) ?_
    refine lv_bipush (v := nI 6) hx hb dX1_keepIfDone_24 (by decide +kernel) ?_
    refine va_mmin hx hb (by rw [X.hml]; exact hl.1.symm) X.hown (X.wd lk_X1_29) (X.wd st_min) (X.wd ini_Math) (X.wd cd_min) (Nat.le_of_ble_eq_true rfl) (Nat.le_of_ble_eq_true rfl) (Nat.zero_le _) (Nat.zero_le _) dX1_keepIfDone_26 ?_
    refine k_top (y := nI (if sz = 6 then 6 else sz + 1)) (k_min6 hs) ?_
    refine k_put X hW inG1 rfl tyX1_ok nmX1 2 (by decide) fl_X1_21 rfl rfl 3 rfl rfl rfl (Nat.le_of_ble_eq_true rfl) dX1_keepIfDone_29 (w' := bigW k B A V (nI ((nx + 1) % 7)) (nI (if sz = 6 then 6 else sz + 1)) sv z g) rfl (fun H locs hW => ?_)
    refine lv_iload_n hx hb dX1_keepIfDone_32 rfl (lv_at hl 1 rfl) ?_
    exact hQ _ _ _ _ _ _ hW dX1_keepIfDone_33 rfl (by rw [kNx, kSz, if_neg c_1, if_neg c_1])
/-- what a copy's source must be -/
def OKC (u : CS) : Prop := CM u ∧ BB (u 6 4) ∧ BB (u 7 4) ∧ BB (u 8 4)
def kBx (nx : Nat) : Nat := (nx + 6) % 7
theorem k_sub1 {n : Nat} (h : 0 < n) : nI n - nI 1 = nI (n - 1) := pk_sub (by omega)
