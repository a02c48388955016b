set_option maxHeartbeats 1000000 in
set_option maxRecDepth 100000 in
theorem A_step {l : Launch} {D : va_G} {k : Nat → ClassId} {B B2 : Nat → Nat} {A0 A1 : Nat → Nat → Nat} {o q : OB} {u : CS} {S : Nat → CS} {sv : Nat → Int32} {T C : Nat} (h : AT o u S sv) (g : AT q u S sv) (hG : GD u S sv T C) (hT9 : T + 99 ≤ 9999) (hC4 : C + 5 ≤ 400) (x y : Int32) : mP l yL_isStep (wsY yL_isStep cL_isStep 14 (some .boolean)) 9 D k [.ref (B 0), .ref (B2 0), .int x, .int y] (OW k B A0 o ++ OW k B2 A1 q) (PW k B A0 B2 A1 (T + 99) (C + 5)) (nI 1) := by
  refine mP_intro rfl (Nat.le_of_ble_eq_true rfl) (Or.inr ⟨rfl, rfl⟩) ?_
  intro p e s m args below meth c A Q ls X hW hl fin
  have hx := X.hx
  have hb := X.hb
  obtain ⟨⟨⟨t, ht, hw⟩, hcC⟩, hsl⟩ := id hG
  have hM := hw.1
  have hl : lv_has ls 14 [(3, .int y), (2, .int x), (1, .ref (B2 0)), (0, .ref (B 0))] := lv_sub hl [3, 2, 1, 0] rfl
  refine lv_iload_n hx hb dL_isStep_0 rfl (lv_at hl 1 rfl) ?_
  refine lv_iconst (v := nI 4) hx hb dL_isStep_1 (by decide +kernel) ?_
  refine lv_ishr hx hb dL_isStep_2 ?_
  obtain ⟨z, hz⟩ : ∃ zq, x >>> ((nI 4) &&& 31) = zq := ⟨_, rfl⟩
  refine k_top (y := z) hz ?_
  refine lv_istore (lv' := [(4, .int z), (3, .int y), (2, .int x), (1, .ref (B2 0)), (0, .ref (B 0))]) hx hb dL_isStep_3 hl (by decide) rfl (fun ls hl => ?_)
  refine lv_iload hx hb dL_isStep_5 (lv_at hl 0 rfl) ?_
  refine lv_iconst (v := nI 3) hx hb dL_isStep_7 (by decide +kernel) ?_
  refine kSi (As := [.int z, .int (nI 3)]) (rest := []) X hW (c_L_up l D k z 3 (by decide) (by decide)) yw_L_up lk_L_19 ⟨Nat.le_of_ble_eq_true rfl, Nat.le_of_ble_eq_true rfl⟩ rfl hl.1 rfl (Nat.le_of_ble_eq_true rfl) ⟨Nat.zero_le _, Nat.zero_le _⟩ dL_isStep_8 (fun H locs hW => ?_)
  obtain ⟨jq, e_jq⟩ : ∃ zq, upn z 3 = zq := ⟨_, rfl⟩
  have h_jq : jq < 3 := by rw [← e_jq]; exact upn_lt _ (by decide)
  refine k_top (y := nI jq) (congrArg nI e_jq) ?_
  refine lv_istore (lv' := [(5, .int (nI jq)), (4, .int z), (3, .int y), (2, .int x), (1, .ref (B2 0)), (0, .ref (B 0))]) hx hb dL_isStep_11 hl (by decide) rfl (fun ls hl => ?_)
  refine lv_aload_n hx hb dL_isStep_13 rfl (lv_at hl 5 rfl) ?_
  refine lv_iconst (v := nI 1) hx hb dL_isStep_14 (by decide +kernel) ?_
  refine k_o (As := [.int (nI 1)]) (rest := []) X hW (A_count h (j := 1) (by decide)) yw_X4_count lk_L_24 ⟨Nat.le_of_ble_eq_true rfl, Nat.le_of_ble_eq_true rfl⟩ rfl hl.1 rfl (Nat.le_of_ble_eq_true rfl) ⟨Nat.zero_le _, Nat.zero_le _⟩ dL_isStep_15 (fun H locs hW => ?_)
  refine k_top (y := nI (cn u)) ((ctr_1 u).trans hM.1) ?_
  refine lv_istore (lv' := [(6, .int (nI (cn u))), (5, .int (nI jq)), (4, .int z), (3, .int y), (2, .int x), (1, .ref (B2 0)), (0, .ref (B 0))]) hx hb dL_isStep_18 hl (by decide) rfl (fun ls hl => ?_)
  refine lv_iload_n hx hb dL_isStep_20 rfl (lv_at hl 4 rfl) ?_
  refine lv_bipush (v := nI 18) hx hb dL_isStep_21 (by decide +kernel) ?_
  refine kSi (As := [.int x, .int (nI 18)]) (rest := []) X hW (c_L_up l D k x 18 (by decide) (by decide)) yw_L_up lk_L_19 ⟨Nat.le_of_ble_eq_true rfl, Nat.le_of_ble_eq_true rfl⟩ rfl hl.1 rfl (Nat.le_of_ble_eq_true rfl) ⟨Nat.zero_le _, Nat.zero_le _⟩ dL_isStep_23 (fun H locs hW => ?_)
  obtain ⟨cs, e_cs⟩ : ∃ zq, upn x 18 = zq := ⟨_, rfl⟩
  have h_cs : cs < 18 := by rw [← e_cs]; exact upn_lt _ (by decide)
  refine k_top (y := nI cs) (congrArg nI e_cs) ?_
  rcases (by omega : cs = 0 ∨ cs = 1 ∨ cs = 2 ∨ cs = 3 ∨ cs = 4 ∨ cs = 5 ∨ cs = 6 ∨ cs = 7 ∨ cs = 8 ∨ cs = 9 ∨ 9 < cs) with rfl | rfl | rfl | rfl | rfl | rfl | rfl | rfl | rfl | rfl | h9
  · refine lv_tableIn (off := 54) (tgt := 80) hx hb dL_isStep_26 (by decide +kernel) (by decide +kernel) (by decide +kernel) (by decide) ?_
    exact step_set X h g hG hT9 hC4 h_jq fin hW (lv_sub hl [2, 3, 5, 6] rfl)
  · refine lv_tableIn (off := 187) (tgt := 213) hx hb dL_isStep_26 (by decide +kernel) (by decide +kernel) (by decide +kernel) (by decide) ?_
    exact step_bounds X h g hG hT9 hC4 h_jq fin hW (lv_sub hl [1, 2, 3, 5, 6] rfl)
  · refine lv_tableIn (off := 187) (tgt := 213) hx hb dL_isStep_26 (by decide +kernel) (by decide +kernel) (by decide +kernel) (by decide) ?_
    exact step_bounds X h g hG hT9 hC4 h_jq fin hW (lv_sub hl [1, 2, 3, 5, 6] rfl)
  · refine lv_tableIn (off := 381) (tgt := 407) hx hb dL_isStep_26 (by decide +kernel) (by decide +kernel) (by decide +kernel) (by decide) ?_
    exact step_mask X h g hG hT9 hC4 h_jq fin hW (lv_sub hl [1, 5, 6] rfl)
  · refine lv_tableIn (off := 461) (tgt := 487) hx hb dL_isStep_26 (by decide +kernel) (by decide +kernel) (by decide +kernel) (by decide) ?_
    exact step_call X h g hG hT9 hC4 h_jq fin hW (lv_sub hl [1, 5, 6] rfl)
  · refine lv_tableIn (off := 597) (tgt := 623) hx hb dL_isStep_26 (by decide +kernel) (by decide +kernel) (by decide +kernel) (by decide) ?_
    exact step_pass X h g hG hT9 hC4 h_jq fin hW (lv_sub hl [2, 3, 5, 6] rfl)
  · refine lv_tableIn (off := 597) (tgt := 623) hx hb dL_isStep_26 (by decide +kernel) (by decide +kernel) (by decide +kernel) (by decide) ?_
    exact step_pass X h g hG hT9 hC4 h_jq fin hW (lv_sub hl [2, 3, 5, 6] rfl)
  · refine lv_tableIn (off := 597) (tgt := 623) hx hb dL_isStep_26 (by decide +kernel) (by decide +kernel) (by decide +kernel) (by decide) ?_
    exact step_pass X h g hG hT9 hC4 h_jq fin hW (lv_sub hl [2, 3, 5, 6] rfl)
  · refine lv_tableIn (off := 730) (tgt := 756) hx hb dL_isStep_26 (by decide +kernel) (by decide +kernel) (by decide +kernel) (by decide) ?_
    exact step_would X h g hG hT9 hC4 h_jq fin hW (lv_sub hl [3, 5, 6] rfl)
  · refine lv_tableIn (off := 825) (tgt := 851) hx hb dL_isStep_26 (by decide +kernel) (by decide +kernel) (by decide +kernel) (by decide) ?_
    exact step_slots X h g hG hT9 hC4 h_jq fin hW (lv_sub hl [2, 3, 5, 6] rfl)
  · refine lv_tableOut (tgt := 919) hx hb dL_isStep_26 (Or.inr (by rw [nI_toInt (by omega)]; omega)) (by decide) ?_
    exact step_come X h g hG hT9 hC4 h_jq fin hW (lv_sub hl [0, 2, 3, 5, 6] rfl)
