/-! number() and sum() of the law -/
def dg (v : Nat) : List Nat := if v < 10 then [48 + v] else [48 + v / 10, 48 + v % 10]
theorem dg_le (v : Nat) : (dg v).length ≤ 2 := by
  unfold dg
  split <;> simp
set_option maxHeartbeats 4000000 in
set_option maxRecDepth 100000 in
theorem c_L_number_a (l : Launch) (D : va_G) (k : Nat → ClassId) (B : Nat → Nat) (A0 : Nat → Nat → Nat) {o : OB} {u : CS} {S : Nat → CS} {sv : Nat → Int32} {t : List Nat} {v : Nat} (h : AT o u S sv) (ht : TXT o t) (hl2 : t.length + 2 ≤ 80) (hv : v < 10) : ∃ o' : OB, AT o' u S sv ∧ TXT o' (t ++ dg v) ∧ mI l yL_number (wsY yL_number cL_number 2 (some .boolean)) 3 D k [.ref (B 0), .int (nI v)] (OW k B A0 o) (OW k B A0 o') (nI 1) := by
  obtain ⟨o', a1, a2, hM2⟩ := A_put (l := l) (D := D) (k := k) (B := B) (A := A0) h ht (by omega) (x := (nI (48 + v % 10)).toInt64) (c := 48 + v % 10) rfl (by omega) (by omega)
  have ed : dg v = [48 + v % 10] := by unfold dg; rw [if_pos hv, Nat.mod_eq_of_lt hv]
  refine ⟨o', a1, by rw [ed]; exact a2, ?_⟩
  refine mI_intro rfl (Nat.le_of_ble_eq_true rfl) (Or.inr ⟨rfl, rfl⟩) ?_
  intro p e s m args below meth c A Q ls X hW hl hQ
  have hx := X.hx
  have hb := X.hb
  have hW := hW.eq (List.append_nil _).symm
  have hl : lv_has ls 2 [(0, .ref (B 0)), (1, .int (nI v))] := hl
  refine lv_iload_n hx hb dL_number_0 rfl (lv_at hl 1 rfl) ?_
  refine lv_bipush (v := nI 10) hx hb dL_number_1 (by decide +kernel) ?_
  refine lv_icmp_lt (tgt := 21) hx hb dL_number_3 (by decide) (fun _ => ?_) (fun c0 => absurd ((nI_ltI (by omega) (by decide)).mpr hv) c0)
  refine lv_aload_n hx hb dL_number_21 rfl (lv_at hl 0 rfl) ?_
  refine lv_bipush (v := nI 48) hx hb dL_number_22 (by decide +kernel) ?_
  refine lv_iload_n hx hb dL_number_24 rfl (lv_at hl 1 rfl) ?_
  refine lv_bipush (v := nI 10) hx hb dL_number_25 (by decide +kernel) ?_
  refine lv_irem hx hb dL_number_27 (by decide +kernel) ?_
  refine k_top (y := nI (v % 10)) (pk_rem (by omega) (by decide) (by decide)) ?_
  refine lv_iadd hx hb dL_number_28 ?_
  refine k_top (y := nI (48 + v % 10)) (nI_add _ _) ?_
  refine lv_i2l (v := (nI (48 + v % 10)).toInt64) hx hb dL_number_29 rfl ?_
  refine k_o (As := [.long ((nI (48 + v % 10)).toInt64)]) (rest := []) X hW hM2 yw_X4_put lk_L_9 ⟨Nat.le_of_ble_eq_true rfl, Nat.le_of_ble_eq_true rfl⟩ rfl hl.1 rfl (Nat.le_of_ble_eq_true rfl) ⟨Nat.zero_le _, Nat.zero_le _⟩ dL_number_30 (fun H locs hW => ?_)
  refine lv_if_le (tgt := 40) hx hb dL_number_33 (by decide) (fun c0 => absurd c0 (Int32.not_le.mpr ((nI_ltI (a := 0) (by decide) (by omega)).mpr (by omega)))) (fun _ => ?_)
  refine lv_iconst (v := nI 1) hx hb dL_number_36 (by decide +kernel) ?_
  refine lv_goto (tgt := 41) hx hb dL_number_37 (by decide) ?_
  exact hQ _ _ _ _ _ _ hW dL_number_41 rfl (List.append_nil _)
set_option maxHeartbeats 4000000 in
set_option maxRecDepth 100000 in
theorem c_L_number_b (l : Launch) (D : va_G) (k : Nat → ClassId) (B : Nat → Nat) (A0 : Nat → Nat → Nat) {o : OB} {u : CS} {S : Nat → CS} {sv : Nat → Int32} {t : List Nat} {v : Nat} (h : AT o u S sv) (ht : TXT o t) (hl2 : t.length + 2 ≤ 80) (hv : 10 ≤ v) (hv9 : v ≤ 99) : ∃ o' : OB, AT o' u S sv ∧ TXT o' (t ++ dg v) ∧ mI l yL_number (wsY yL_number cL_number 2 (some .boolean)) 3 D k [.ref (B 0), .int (nI v)] (OW k B A0 o) (OW k B A0 o') (nI 1) := by
  obtain ⟨o1, b1, b2, hM1⟩ := A_put (l := l) (D := D) (k := k) (B := B) (A := A0) h ht (by omega) (x := (nI (48 + v / 10)).toInt64) (c := 48 + v / 10) rfl (by omega) (by omega)
  obtain ⟨o', a1, a2, hM2⟩ := A_put (l := l) (D := D) (k := k) (B := B) (A := A0) b1 b2 (by rw [List.length_append, List.length_singleton]; omega) (x := (nI (48 + v % 10)).toInt64) (c := 48 + v % 10) rfl (by omega) (by omega)
  have ed : dg v = [48 + v / 10] ++ [48 + v % 10] := by unfold dg; rw [if_neg (by omega)]; rfl
  have hlen : (t ++ [48 + v / 10]).length + 1 < 2 ^ 31 := by rw [List.length_append, List.length_singleton]; omega
  refine ⟨o', a1, by rw [ed, ← List.append_assoc]; exact a2, ?_⟩
  refine mI_intro rfl (Nat.le_of_ble_eq_true rfl) (Or.inr ⟨rfl, rfl⟩) ?_
  intro p e s m args below meth c A Q ls X hW hl hQ
  have hx := X.hx
  have hb := X.hb
  have hW := hW.eq (List.append_nil _).symm
  have hl : lv_has ls 2 [(0, .ref (B 0)), (1, .int (nI v))] := hl
  refine lv_iload_n hx hb dL_number_0 rfl (lv_at hl 1 rfl) ?_
  refine lv_bipush (v := nI 10) hx hb dL_number_1 (by decide +kernel) ?_
  refine lv_icmp_lt (tgt := 21) hx hb dL_number_3 (by decide) (fun c0 => absurd c0 (fun z => by rw [nI_ltI (by omega) (by decide)] at z; omega)) (fun _ => ?_)
  refine lv_aload_n hx hb dL_number_6 rfl (lv_at hl 0 rfl) ?_
  refine lv_bipush (v := nI 48) hx hb dL_number_7 (by decide +kernel) ?_
  refine lv_iload_n hx hb dL_number_9 rfl (lv_at hl 1 rfl) ?_
  refine lv_bipush (v := nI 10) hx hb dL_number_10 (by decide +kernel) ?_
  refine lv_idiv hx hb dL_number_12 (by decide +kernel) ?_
  refine k_top (y := nI (v / 10)) (pk_div (by omega) (by decide) (by decide)) ?_
  refine lv_iadd hx hb dL_number_13 ?_
  refine k_top (y := nI (48 + v / 10)) (nI_add _ _) ?_
  refine lv_i2l (v := (nI (48 + v / 10)).toInt64) hx hb dL_number_14 rfl ?_
  refine k_o (As := [.long ((nI (48 + v / 10)).toInt64)]) (rest := []) X hW hM1 yw_X4_put lk_L_9 ⟨Nat.le_of_ble_eq_true rfl, Nat.le_of_ble_eq_true rfl⟩ rfl hl.1 rfl (Nat.le_of_ble_eq_true rfl) ⟨Nat.zero_le _, Nat.zero_le _⟩ dL_number_15 (fun H locs hW => ?_)
  refine lv_if_le (tgt := 40) hx hb dL_number_18 (by decide) (fun c0 => absurd c0 (Int32.not_le.mpr ((nI_ltI (a := 0) (by decide) (by omega)).mpr (by omega)))) (fun _ => ?_)
  refine lv_aload_n hx hb dL_number_21 rfl (lv_at hl 0 rfl) ?_
  refine lv_bipush (v := nI 48) hx hb dL_number_22 (by decide +kernel) ?_
  refine lv_iload_n hx hb dL_number_24 rfl (lv_at hl 1 rfl) ?_
  refine lv_bipush (v := nI 10) hx hb dL_number_25 (by decide +kernel) ?_
  refine lv_irem hx hb dL_number_27 (by decide +kernel) ?_
  refine k_top (y := nI (v % 10)) (pk_rem (by omega) (by decide) (by decide)) ?_
  refine lv_iadd hx hb dL_number_28 ?_
  refine k_top (y := nI (48 + v % 10)) (nI_add _ _) ?_
  refine lv_i2l (v := (nI (48 + v % 10)).toInt64) hx hb dL_number_29 rfl ?_
  refine k_o (As := [.long ((nI (48 + v % 10)).toInt64)]) (rest := []) X hW hM2 yw_X4_put lk_L_9 ⟨Nat.le_of_ble_eq_true rfl, Nat.le_of_ble_eq_true rfl⟩ rfl hl.1 rfl (Nat.le_of_ble_eq_true rfl) ⟨Nat.zero_le _, Nat.zero_le _⟩ dL_number_30 (fun H locs hW => ?_)
  refine lv_if_le (tgt := 40) hx hb dL_number_33 (by decide) (fun c0 => absurd c0 (Int32.not_le.mpr ((nI_ltI (a := 0) (by decide) (by omega)).mpr (by omega)))) (fun _ => ?_)
  refine lv_iconst (v := nI 1) hx hb dL_number_36 (by decide +kernel) ?_
  refine lv_goto (tgt := 41) hx hb dL_number_37 (by decide) ?_
  exact hQ _ _ _ _ _ _ hW dL_number_41 rfl (List.append_nil _)
theorem A_number {l : Launch} {D : va_G} {k : Nat → ClassId} {B : Nat → Nat} {A0 : Nat → Nat → Nat} {o : OB} {u : CS} {S : Nat → CS} {sv : Nat → Int32} {t : List Nat} {v : Nat} (h : AT o u S sv) (ht : TXT o t) (hl2 : t.length + 2 ≤ 80) (hv : v ≤ 99) : ∃ o' : OB, AT o' u S sv ∧ TXT o' (t ++ dg v) ∧ mI l yL_number (wsY yL_number cL_number 2 (some .boolean)) 3 D k [.ref (B 0), .int (nI v)] (OW k B A0 o) (OW k B A0 o') (nI 1) := by
  by_cases c : v < 10
  · exact c_L_number_a l D k B A0 h ht hl2 c
  · exact c_L_number_b l D k B A0 h ht hl2 (by omega) hv
def sm (u : CS) (w : Int32) : Int32 := m_X4_of_r u (nI 0) w + m_X4_of_r u (nI 1) w + m_X4_of_r u (nI 2) w
set_option maxHeartbeats 4000000 in
set_option maxRecDepth 100000 in
theorem A_sum {l : Launch} {D : va_G} {k : Nat → ClassId} {B : Nat → Nat} {A0 : Nat → Nat → Nat} {o : OB} {u : CS} {S : Nat → CS} {sv : Nat → Int32} (h : AT o u S sv) (w : Int32) : mI l yL_sum (wsY yL_sum cL_sum 2 (some .int)) 3 D k [.ref (B 0), .int w] (OW k B A0 o) (OW k B A0 o) (sm u w) := by
  refine mI_intro rfl (Nat.le_of_ble_eq_true rfl) (Or.inl rfl) ?_
  intro p e s m args below meth c A Q ls X hW hl hQ
  have hx := X.hx
  have hb := X.hb
  have hW := hW.eq (List.append_nil _).symm
  have hl : lv_has ls 2 [(0, .ref (B 0)), (1, .int w)] := hl
  refine lv_aload_n hx hb dL_sum_0 rfl (lv_at hl 0 rfl) ?_
  refine lv_iconst (v := nI 0) hx hb dL_sum_1 (by decide +kernel) ?_
  refine lv_iload_n hx hb dL_sum_2 rfl (lv_at hl 1 rfl) ?_
  refine k_o (As := [.int (nI 0), .int w]) (rest := []) X hW (A_of h (nI 0) w) yw_X4_of lk_L_15 ⟨Nat.le_of_ble_eq_true rfl, Nat.le_of_ble_eq_true rfl⟩ rfl hl.1 rfl (Nat.le_of_ble_eq_true rfl) ⟨Nat.zero_le _, Nat.zero_le _⟩ dL_sum_3 (fun H locs hW => ?_)
  refine lv_aload_n hx hb dL_sum_6 rfl (lv_at hl 0 rfl) ?_
  refine lv_iconst (v := nI 1) hx hb dL_sum_7 (by decide +kernel) ?_
  refine lv_iload_n hx hb dL_sum_8 rfl (lv_at hl 1 rfl) ?_
  refine k_o (As := [.int (nI 1), .int w]) (rest := [.int (m_X4_of_r u (nI 0) w)]) X hW (A_of h (nI 1) w) yw_X4_of lk_L_15 ⟨Nat.le_of_ble_eq_true rfl, Nat.le_of_ble_eq_true rfl⟩ rfl hl.1 rfl (Nat.le_of_ble_eq_true rfl) ⟨Nat.zero_le _, Nat.zero_le _⟩ dL_sum_9 (fun H locs hW => ?_)
  refine lv_iadd hx hb dL_sum_12 ?_
  refine lv_aload_n hx hb dL_sum_13 rfl (lv_at hl 0 rfl) ?_
  refine lv_iconst (v := nI 2) hx hb dL_sum_14 (by decide +kernel) ?_
  refine lv_iload_n hx hb dL_sum_15 rfl (lv_at hl 1 rfl) ?_
  refine k_o (As := [.int (nI 2), .int w]) (rest := [.int ((m_X4_of_r u (nI 0) w) + (m_X4_of_r u (nI 1) w))]) X hW (A_of h (nI 2) w) yw_X4_of lk_L_15 ⟨Nat.le_of_ble_eq_true rfl, Nat.le_of_ble_eq_true rfl⟩ rfl hl.1 rfl (Nat.le_of_ble_eq_true rfl) ⟨Nat.zero_le _, Nat.zero_le _⟩ dL_sum_16 (fun H locs hW => ?_)
  refine lv_iadd hx hb dL_sum_19 ?_
  exact hQ _ _ _ _ _ _ hW dL_sum_20 rfl (List.append_nil _)
