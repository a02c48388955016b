section
variable {p : Program} {l : Launch} {e : Env} {s : State} {m : MethodId} {args : Array Value} {below : List Frame} {meth : Method} {c : Code} {Ts : List Cond} {D : va_G} {k : Nat → ClassId} {P : Nat → Prop} {Q : State → Prop} {B B2 : Nat → Nat} {A0 A1 : Nat → Nat → Nat} {H : Heap} {locs : List Loc} {ls : Array Slot} {o q : OB} {u : CS} {S : Nat → CS} {sv : Nat → Int32} {T C : Nat} {x y z : Int32} {jq : Nat}
set_option maxHeartbeats 1000000 in
set_option maxRecDepth 100000 in
theorem step_mask (X : KX p s m args meth c cL_isStep 14 Ts RL D k P) (h : AT o u S sv) (g : AT q u S sv) (hG : GD u S sv T C) (hT9 : T + 99 ≤ 9999) (hC4 : C + 5 ≤ 400) (hj : jq < 3) (fin : ∀ (w : va_W) (H : Heap) (locs : List Loc) (pc : Nat) (ls : Array Slot) (v : Int32), KW D P s w H locs → decode cL_isStep pc = .ok (.ireturn, 1) → v = nI 1 → PW k B A0 B2 A1 (T + 99) (C + 5) w → W p l e (rmD 9) s m args below meth c H locs 0 0 Q (F0 m pc ls [.int v])) (hW : KW D P s (OW k B A0 o ++ OW k B2 A1 q) H locs) (hl : lv_has ls 14 [(5, .int (nI jq)), (1, .ref (B2 0)), (0, .ref (B 0))]) : W p l e (rmD 9) s m args below meth c H locs 0 0 Q (F0 m 407 ls []) := by
  have hx := X.hx
  have hb := X.hb
  obtain ⟨⟨⟨t, ht, hw⟩, hcC⟩, hsl⟩ := id hG
  have hM := hw.1
  have hc := hM.2.1
  have hO := hw.okc
  have hQ := hw.2.2.2.2.1 jq hj
  obtain ⟨k1, k2, k3, k4⟩ := WL_mask hj hw
  obtain ⟨u', eu⟩ : ∃ zq, m_X0_changeMask_u u (nI jq) = zq := ⟨_, rfl⟩
  rw [eu] at k2 k4
  have ec : cn u' = cn u := cn_of (by rw [k2, st2_n (by omega)])
  have f5 : m_X3_fact_r (u' (6 + jq)) (nI 5) = nI 1 - u (6 + jq) 4 := by rw [k2, st2_s, fact_5 (by rw [pk_us]; exact k3), pk_us]
  refine lv_aload_n hx hb dL_isStep_407 rfl (lv_at hl 2 rfl) ?_
  refine lv_iload hx hb dL_isStep_408 (lv_at hl 0 rfl) ?_
  refine lv_iconst (v := nI 5) hx hb dL_isStep_410 (by decide +kernel) ?_
  refine k_o (As := [.int (nI jq), .int (nI 5)]) (rest := []) X hW (A_of h (nI jq) (nI 5)) yw_X4_of lk_L_15 ⟨Nat.le_of_ble_eq_true rfl, Nat.le_of_ble_eq_true rfl⟩ rfl hl.1 rfl (Nat.le_of_ble_eq_true rfl) ⟨Nat.zero_le _, Nat.zero_le _⟩ dL_isStep_411 (fun H locs hW => ?_)
  refine k_top (y := u (6 + jq) 4) ((of_r hj).trans (fact_5 hQ.1.1)) ?_
  refine lv_istore (lv' := [(7, .int (u (6 + jq) 4)), (5, .int (nI jq)), (1, .ref (B2 0)), (0, .ref (B 0))]) hx hb dL_isStep_414 hl (by decide) rfl (fun ls hl => ?_)
  refine lv_aload_n hx hb dL_isStep_416 rfl (lv_at hl 3 rfl) ?_
  refine lv_iload hx hb dL_isStep_417 (lv_at hl 1 rfl) ?_
  refine k_o (As := [.int (nI jq)]) (rest := []) X hW (A_mask h hO (nI jq)) yw_X4_mask lk_L_52 ⟨Nat.le_of_ble_eq_true rfl, Nat.le_of_ble_eq_true rfl⟩ rfl hl.1 rfl (Nat.le_of_ble_eq_true rfl) ⟨Nat.zero_le _, Nat.zero_le _⟩ dL_isStep_419 (fun H locs hW => ?_)
  have a1 := AT_chg (r := m_X0_changeMask_r u (nI jq)) (u' := m_X0_changeMask_u u (nI jq)) h
  obtain ⟨o1, e_o1⟩ : ∃ zq, oChg o (m_X0_changeMask_u u (nI jq)) (m_X0_changeMask_r u (nI jq)) = zq := ⟨_, rfl⟩
  rw [e_o1] at hW a1
  refine k_top (y := nI 1 - u (6 + jq) 4) k1 ?_
  rw [eu] at a1
  refine lv_iconst (v := nI 1) hx hb dL_isStep_422 (by decide +kernel) ?_
  refine lv_iload hx hb dL_isStep_423 (lv_at hl 0 rfl) ?_
  refine lv_isub hx hb dL_isStep_425 ?_
  refine lv_icmp_ne (tgt := 485) hx hb dL_isStep_426 (by decide) (fun c0 => absurd rfl c0) (fun _ => ?_)
  refine lv_aload_n hx hb dL_isStep_429 rfl (lv_at hl 2 rfl) ?_
  obtain ⟨q2, n2, hn2, a2, x2, m2⟩ := A_wipe (l := l) (D := D) (k := k) (B := B2) (A := A1) g
  refine k_p (As := []) (rest := []) X hW m2 yw_X4_wipe lk_L_35 ⟨Nat.le_of_ble_eq_true rfl, Nat.le_of_ble_eq_true rfl⟩ rfl hl.1 rfl (Nat.le_of_ble_eq_true rfl) ⟨Nat.zero_le _, Nat.zero_le _⟩ dL_isStep_430 (fun H locs hW => ?_)
  refine lv_if_lt (tgt := 485) hx hb dL_isStep_433 (by decide) (fun c0 => absurd c0 (nI_pos hn2)) (fun _ => ?_)
  refine lv_aload_n hx hb dL_isStep_436 rfl (lv_at hl 2 rfl) ?_
  refine lv_ldc2 (v := 109) hx hb X.hown (X.wd kl_L_55) dL_isStep_437 ?_
  have L3 : ([] : List Nat).length < 80 := by simp only [List.length_append, List.length_cons, List.length_nil] <;> omega
  obtain ⟨q3, a3, x3, m3⟩ := A_put (l := l) (D := D) (k := k) (B := B2) (A := A1) a2 x2 L3 (x := 109) (c := 109) (by decide +kernel) (by decide) (by decide)
  refine k_p (As := [.long 109]) (rest := []) X hW m3 yw_X4_put lk_L_9 ⟨Nat.le_of_ble_eq_true rfl, Nat.le_of_ble_eq_true rfl⟩ rfl hl.1 rfl (Nat.le_of_ble_eq_true rfl) ⟨Nat.zero_le _, Nat.zero_le _⟩ dL_isStep_440 (fun H locs hW => ?_)
  refine lv_if_le (tgt := 485) hx hb dL_isStep_443 (by decide) (fun c0 => absurd c0 (pos1 L3)) (fun _ => ?_)
  refine lv_aload_n hx hb dL_isStep_446 rfl (lv_at hl 2 rfl) ?_
  refine lv_bipush (v := nI 48) hx hb dL_isStep_447 (by decide +kernel) ?_
  refine lv_iload hx hb dL_isStep_449 (lv_at hl 1 rfl) ?_
  refine lv_iadd hx hb dL_isStep_451 ?_
  refine k_top (y := nI (48 + jq)) (nI_add _ _) ?_
  refine lv_i2l (v := (nI (48 + jq)).toInt64) hx hb dL_isStep_452 rfl ?_
  have L4 : ([] ++ [109] : List Nat).length < 80 := by simp only [List.length_append, List.length_cons, List.length_nil] <;> omega
  obtain ⟨q4, a4, x4, m4⟩ := A_put (l := l) (D := D) (k := k) (B := B2) (A := A1) a3 x3 L4 (x := (nI (48 + jq)).toInt64) (c := 48 + jq) rfl (by omega) (by omega)
  refine k_p (As := [.long ((nI (48 + jq)).toInt64)]) (rest := []) X hW m4 yw_X4_put lk_L_9 ⟨Nat.le_of_ble_eq_true rfl, Nat.le_of_ble_eq_true rfl⟩ rfl hl.1 rfl (Nat.le_of_ble_eq_true rfl) ⟨Nat.zero_le _, Nat.zero_le _⟩ dL_isStep_453 (fun H locs hW => ?_)
  refine lv_if_le (tgt := 485) hx hb dL_isStep_456 (by decide) (fun c0 => absurd c0 (pos1 L4)) (fun _ => ?_)
  refine lv_aload_n hx hb dL_isStep_459 rfl (lv_at hl 2 rfl) ?_
  have L5 : ([] ++ [109] ++ [48 + jq] : List Nat).length ≤ 80 := by simp only [List.length_append, List.length_cons, List.length_nil] <;> omega
  obtain ⟨zz, q5, ⟨z4, z5, z67⟩, a5, m5⟩ := A_carry (l := l) (D := D) (k := k) (B := B2) (A := A1) a4 hO x4 L5 (OE_m (j := jq) (by simp) x4.2 hj)
  have tn1 : tn (nI 1) = 1 := tn_of rfl (by decide)
  obtain ⟨cu, cr⟩ := co_m (u := u) z4 z5
  obtain ⟨ci1, ci2⟩ := ci_ok (cu.trans eu) (cr.trans k1) (BB_nn k3)
  rw [tn1, ci1] at a5
  rw [tn1, ci2] at m5
  refine k_p (As := []) (rest := []) X hW m5 yw_X4_carryOut lk_L_49 ⟨Nat.le_of_ble_eq_true rfl, Nat.le_of_ble_eq_true rfl⟩ rfl hl.1 rfl (Nat.le_of_ble_eq_true rfl) ⟨Nat.zero_le _, Nat.zero_le _⟩ dL_isStep_460 (fun H locs hW => ?_)
  refine lv_iconst (v := nI 1) hx hb dL_isStep_463 (by decide +kernel) ?_
  refine lv_icmp_ne (tgt := 485) hx hb dL_isStep_464 (by decide) (fun c0 => absurd rfl c0) (fun _ => ?_)
  refine lv_aload_n hx hb dL_isStep_467 rfl (lv_at hl 3 rfl) ?_
  refine lv_iload hx hb dL_isStep_468 (lv_at hl 1 rfl) ?_
  refine lv_iconst (v := nI 5) hx hb dL_isStep_470 (by decide +kernel) ?_
  refine k_o (As := [.int (nI jq), .int (nI 5)]) (rest := []) X hW (A_of a1 (nI jq) (nI 5)) yw_X4_of lk_L_15 ⟨Nat.le_of_ble_eq_true rfl, Nat.le_of_ble_eq_true rfl⟩ rfl hl.1 rfl (Nat.le_of_ble_eq_true rfl) ⟨Nat.zero_le _, Nat.zero_le _⟩ dL_isStep_471 (fun H locs hW => ?_)
  refine k_top (y := nI 1 - u (6 + jq) 4) ((of_r hj).trans f5) ?_
  refine lv_iconst (v := nI 1) hx hb dL_isStep_474 (by decide +kernel) ?_
  refine lv_iload hx hb dL_isStep_475 (lv_at hl 0 rfl) ?_
  refine lv_isub hx hb dL_isStep_477 ?_
  refine lv_icmp_ne (tgt := 485) hx hb dL_isStep_478 (by decide) (fun c0 => absurd rfl c0) (fun _ => ?_)
  refine lv_iconst (v := nI 1) hx hb dL_isStep_481 (by decide +kernel) ?_
  refine lv_goto (tgt := 486) hx hb dL_isStep_482 (by decide) ?_
  exact fin _ _ _ _ _ _ hW dL_isStep_486 rfl ⟨_, _, _, _, _, a1, a5, hG.to k4 (by omega) (by omega) (by omega) (by omega), rfl⟩
end
