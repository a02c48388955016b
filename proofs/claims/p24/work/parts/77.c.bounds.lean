section
variable {p : Program} {l : Launch} {e : Env} {s : State} {m : MethodId} {args : Array Value} {below : List Frame} {meth : Method} {c : Code} {Ts : List Cond} {D : va_G} {k : Nat → ClassId} {P : Nat → Prop} {Q : State → Prop} {B B2 : Nat → Nat} {A0 A1 : Nat → Nat → Nat} {H : Heap} {locs : List Loc} {ls : Array Slot} {o q : OB} {u : CS} {S : Nat → CS} {sv : Nat → Int32} {T C : Nat} {x y z : Int32} {jq : Nat}
set_option maxHeartbeats 1000000 in
set_option maxRecDepth 100000 in
theorem step_bounds_tail (X : KX p s m args meth c cL_isStep 14 Ts RL D k P) (h : AT o u S sv) (g : AT q u S sv) (hG : GD u S sv T C) (hT9 : T + 99 ≤ 9999) (hC4 : C + 5 ≤ 400) (hj : jq < 3) (fin : ∀ (w : va_W) (H : Heap) (locs : List Loc) (pc : Nat) (ls : Array Slot) (v : Int32), KW D P s w H locs → decode cL_isStep pc = .ok (.ireturn, 1) → v = nI 1 → PW k B A0 B2 A1 (T + 99) (C + 5) w → W p l e (rmD 9) s m args below meth c H locs 0 0 Q (F0 m pc ls [.int v])) (hW : KW D P s (OW k B A0 o ++ OW k B2 A1 q) H locs) {ct wt : Nat} (hc1 : 1 ≤ ct) (hc2 : ct ≤ 32) (hw1 : 1 ≤ wt) (hw2 : wt ≤ 99) (hl : lv_has ls 14 [(8, .int (nI wt)), (7, .int (nI ct)), (5, .int (nI jq)), (1, .ref (B2 0)), (0, .ref (B 0))]) : W p l e (rmD 9) s m args below meth c H locs 0 0 Q (F0 m 265 ls []) := by
  have hx := X.hx
  have hb := X.hb
  obtain ⟨⟨⟨t, ht, hw⟩, hcC⟩, hsl⟩ := id hG
  have hM := hw.1
  have hc := hM.2.1
  have hO := hw.okc
  have hQ := hw.2.2.2.2.1 jq hj
  obtain ⟨k1, k2, k3⟩ := WL_bnd hj hw hc1 hc2 hw1 hw2
  obtain ⟨u', eu⟩ : ∃ zq, m_X0_changeBounds_u u (nI jq) (nI ct) (nI wt) = zq := ⟨_, rfl⟩
  rw [eu] at k2 k3
  have ec : cn u' = cn u := cn_of (by rw [k2, st2_n (by omega)])
  have f0 : m_X3_fact_r (u' (6 + jq)) (nI 0) = nI ct := by rw [k2, st2_s]; rfl
  have f1 : m_X3_fact_r (u' (6 + jq)) (nI 1) = nI wt := by rw [k2, st2_s]; rfl
  have f2 : m_X3_fact_r (u' (6 + jq)) (nI 2) = nI ct := by rw [k2, st2_s]; rfl
  refine lv_aload_n hx hb dL_isStep_265 rfl (lv_at hl 4 rfl) ?_
  refine lv_iload hx hb dL_isStep_266 (lv_at hl 2 rfl) ?_
  refine lv_iconst (v := nI 0) hx hb dL_isStep_268 (by decide +kernel) ?_
  refine k_o (As := [.int (nI jq), .int (nI 0)]) (rest := []) X hW (A_of h (nI jq) (nI 0)) yw_X4_of lk_L_15 ⟨Nat.le_of_ble_eq_true rfl, Nat.le_of_ble_eq_true rfl⟩ rfl hl.1 rfl (Nat.le_of_ble_eq_true rfl) ⟨Nat.zero_le _, Nat.zero_le _⟩ dL_isStep_269 (fun H locs hW => ?_)
  refine k_top (y := u (6 + jq) 0) ((of_r hj).trans (fact_0 _)) ?_
  refine lv_istore (lv' := [(9, .int (u (6 + jq) 0)), (8, .int (nI wt)), (7, .int (nI ct)), (5, .int (nI jq)), (1, .ref (B2 0)), (0, .ref (B 0))]) hx hb dL_isStep_272 hl (by decide) rfl (fun ls hl => ?_)
  refine lv_aload_n hx hb dL_isStep_274 rfl (lv_at hl 5 rfl) ?_
  refine lv_iload hx hb dL_isStep_275 (lv_at hl 3 rfl) ?_
  refine lv_iload hx hb dL_isStep_277 (lv_at hl 2 rfl) ?_
  refine lv_iload hx hb dL_isStep_279 (lv_at hl 1 rfl) ?_
  refine k_o (As := [.int (nI jq), .int (nI ct), .int (nI wt)]) (rest := []) X hW (A_bounds h hO (nI jq) (nI ct) (nI wt)) yw_X4_bounds lk_L_31 ⟨Nat.le_of_ble_eq_true rfl, Nat.le_of_ble_eq_true rfl⟩ rfl hl.1 rfl (Nat.le_of_ble_eq_true rfl) ⟨Nat.zero_le _, Nat.zero_le _⟩ dL_isStep_281 (fun H locs hW => ?_)
  have a1 := AT_chg (r := m_X0_changeBounds_r u (nI jq) (nI ct) (nI wt)) (u' := m_X0_changeBounds_u u (nI jq) (nI ct) (nI wt)) h
  obtain ⟨o1, e_o1⟩ : ∃ zq, oChg o (m_X0_changeBounds_u u (nI jq) (nI ct) (nI wt)) (m_X0_changeBounds_r u (nI jq) (nI ct) (nI wt)) = zq := ⟨_, rfl⟩
  rw [e_o1] at hW a1
  refine k_top (y := u (6 + jq) 0) k1 ?_
  rw [eu] at a1
  refine lv_iload hx hb dL_isStep_284 (lv_at hl 0 rfl) ?_
  refine lv_icmp_ne (tgt := 405) hx hb dL_isStep_286 (by decide) (fun c0 => absurd rfl c0) (fun _ => ?_)
  refine lv_aload_n hx hb dL_isStep_289 rfl (lv_at hl 4 rfl) ?_
  obtain ⟨q2, n2, hn2, a2, x2, m2⟩ := A_wipe (l := l) (D := D) (k := k) (B := B2) (A := A1) g
  refine k_p (As := []) (rest := []) X hW m2 yw_X4_wipe lk_L_35 ⟨Nat.le_of_ble_eq_true rfl, Nat.le_of_ble_eq_true rfl⟩ rfl hl.1 rfl (Nat.le_of_ble_eq_true rfl) ⟨Nat.zero_le _, Nat.zero_le _⟩ dL_isStep_290 (fun H locs hW => ?_)
  refine lv_if_lt (tgt := 405) hx hb dL_isStep_293 (by decide) (fun c0 => absurd c0 (nI_pos hn2)) (fun _ => ?_)
  refine lv_aload_n hx hb dL_isStep_296 rfl (lv_at hl 4 rfl) ?_
  refine lv_ldc2 (v := 113) hx hb X.hown (X.wd kl_L_39) dL_isStep_297 ?_
  have L3 : ([] : List Nat).length < 80 := by have d0 := dg_le ct; have d1 := dg_le wt; simp only [List.length_append, List.length_cons, List.length_nil] <;> omega
  obtain ⟨q3, a3, x3, m3⟩ := A_put (l := l) (D := D) (k := k) (B := B2) (A := A1) a2 x2 L3 (x := 113) (c := 113) (by decide +kernel) (by decide) (by decide)
  refine k_p (As := [.long 113]) (rest := []) X hW m3 yw_X4_put lk_L_9 ⟨Nat.le_of_ble_eq_true rfl, Nat.le_of_ble_eq_true rfl⟩ rfl hl.1 rfl (Nat.le_of_ble_eq_true rfl) ⟨Nat.zero_le _, Nat.zero_le _⟩ dL_isStep_300 (fun H locs hW => ?_)
  refine lv_if_le (tgt := 405) hx hb dL_isStep_303 (by decide) (fun c0 => absurd c0 (pos1 L3)) (fun _ => ?_)
  refine lv_aload_n hx hb dL_isStep_306 rfl (lv_at hl 4 rfl) ?_
  refine lv_bipush (v := nI 48) hx hb dL_isStep_307 (by decide +kernel) ?_
  refine lv_iload hx hb dL_isStep_309 (lv_at hl 3 rfl) ?_
  refine lv_iadd hx hb dL_isStep_311 ?_
  refine k_top (y := nI (48 + jq)) (nI_add _ _) ?_
  refine lv_i2l (v := (nI (48 + jq)).toInt64) hx hb dL_isStep_312 rfl ?_
  have L4 : ([] ++ [113] : List Nat).length < 80 := by have d0 := dg_le ct; have d1 := dg_le wt; simp only [List.length_append, List.length_cons, List.length_nil] <;> omega
  obtain ⟨q4, a4, x4, m4⟩ := A_put (l := l) (D := D) (k := k) (B := B2) (A := A1) a3 x3 L4 (x := (nI (48 + jq)).toInt64) (c := 48 + jq) rfl (by omega) (by omega)
  refine k_p (As := [.long ((nI (48 + jq)).toInt64)]) (rest := []) X hW m4 yw_X4_put lk_L_9 ⟨Nat.le_of_ble_eq_true rfl, Nat.le_of_ble_eq_true rfl⟩ rfl hl.1 rfl (Nat.le_of_ble_eq_true rfl) ⟨Nat.zero_le _, Nat.zero_le _⟩ dL_isStep_313 (fun H locs hW => ?_)
  refine lv_if_le (tgt := 405) hx hb dL_isStep_316 (by decide) (fun c0 => absurd c0 (pos1 L4)) (fun _ => ?_)
  refine lv_aload_n hx hb dL_isStep_319 rfl (lv_at hl 4 rfl) ?_
  refine lv_ldc2 (v := 61) hx hb X.hown (X.wd kl_L_41) dL_isStep_320 ?_
  have L5 : ([] ++ [113] ++ [48 + jq] : List Nat).length < 80 := by have d0 := dg_le ct; have d1 := dg_le wt; simp only [List.length_append, List.length_cons, List.length_nil] <;> omega
  obtain ⟨q5, a5, x5, m5⟩ := A_put (l := l) (D := D) (k := k) (B := B2) (A := A1) a4 x4 L5 (x := 61) (c := 61) (by decide +kernel) (by decide) (by decide)
  refine k_p (As := [.long 61]) (rest := []) X hW m5 yw_X4_put lk_L_9 ⟨Nat.le_of_ble_eq_true rfl, Nat.le_of_ble_eq_true rfl⟩ rfl hl.1 rfl (Nat.le_of_ble_eq_true rfl) ⟨Nat.zero_le _, Nat.zero_le _⟩ dL_isStep_323 (fun H locs hW => ?_)
  refine lv_if_le (tgt := 405) hx hb dL_isStep_326 (by decide) (fun c0 => absurd c0 (pos1 L5)) (fun _ => ?_)
  refine lv_aload_n hx hb dL_isStep_329 rfl (lv_at hl 4 rfl) ?_
  refine lv_iload hx hb dL_isStep_330 (lv_at hl 2 rfl) ?_
  have L6 : ([] ++ [113] ++ [48 + jq] ++ [61] : List Nat).length + 2 ≤ 80 := by have d0 := dg_le ct; have d1 := dg_le wt; simp only [List.length_append, List.length_cons, List.length_nil] <;> omega
  obtain ⟨q6, a6, x6, m6⟩ := A_number (l := l) (D := D) (k := k) (B := B2) (A0 := A1) (v := ct) a5 x5 L6 (by omega)
  refine kSw (As := [.ref (B2 0), .int (nI ct)]) (rest := []) X hW m6 yw_L_number lk_L_43 ⟨Nat.le_of_ble_eq_true rfl, Nat.le_of_ble_eq_true rfl⟩ (wr := OW k B A0 o1) (w' := OW k B A0 o1 ++ OW k B2 A1 q6) (List.Perm.refl _) (List.Perm.refl _) rfl hl.1 rfl (Nat.le_of_ble_eq_true rfl) ⟨Nat.zero_le _, Nat.zero_le _⟩ dL_isStep_332 (fun H locs hW => ?_)
  refine lv_if_eq (tgt := 405) hx hb dL_isStep_335 (by decide) (fun c0 => absurd c0 (by decide +kernel)) (fun _ => ?_)
  refine lv_aload_n hx hb dL_isStep_338 rfl (lv_at hl 4 rfl) ?_
  refine lv_ldc2 (v := 44) hx hb X.hown (X.wd kl_L_47) dL_isStep_339 ?_
  have L7 : ([] ++ [113] ++ [48 + jq] ++ [61] ++ dg ct : List Nat).length < 80 := by have d0 := dg_le ct; have d1 := dg_le wt; simp only [List.length_append, List.length_cons, List.length_nil] <;> omega
  obtain ⟨q7, a7, x7, m7⟩ := A_put (l := l) (D := D) (k := k) (B := B2) (A := A1) a6 x6 L7 (x := 44) (c := 44) (by decide +kernel) (by decide) (by decide)
  refine k_p (As := [.long 44]) (rest := []) X hW m7 yw_X4_put lk_L_9 ⟨Nat.le_of_ble_eq_true rfl, Nat.le_of_ble_eq_true rfl⟩ rfl hl.1 rfl (Nat.le_of_ble_eq_true rfl) ⟨Nat.zero_le _, Nat.zero_le _⟩ dL_isStep_342 (fun H locs hW => ?_)
  refine lv_if_le (tgt := 405) hx hb dL_isStep_345 (by decide) (fun c0 => absurd c0 (pos1 L7)) (fun _ => ?_)
  refine lv_aload_n hx hb dL_isStep_348 rfl (lv_at hl 4 rfl) ?_
  refine lv_iload hx hb dL_isStep_349 (lv_at hl 1 rfl) ?_
  have L8 : ([] ++ [113] ++ [48 + jq] ++ [61] ++ dg ct ++ [44] : List Nat).length + 2 ≤ 80 := by have d0 := dg_le ct; have d1 := dg_le wt; simp only [List.length_append, List.length_cons, List.length_nil] <;> omega
  obtain ⟨q8, a8, x8, m8⟩ := A_number (l := l) (D := D) (k := k) (B := B2) (A0 := A1) (v := wt) a7 x7 L8 (by omega)
  refine kSw (As := [.ref (B2 0), .int (nI wt)]) (rest := []) X hW m8 yw_L_number lk_L_43 ⟨Nat.le_of_ble_eq_true rfl, Nat.le_of_ble_eq_true rfl⟩ (wr := OW k B A0 o1) (w' := OW k B A0 o1 ++ OW k B2 A1 q8) (List.Perm.refl _) (List.Perm.refl _) rfl hl.1 rfl (Nat.le_of_ble_eq_true rfl) ⟨Nat.zero_le _, Nat.zero_le _⟩ dL_isStep_351 (fun H locs hW => ?_)
  refine lv_if_eq (tgt := 405) hx hb dL_isStep_354 (by decide) (fun c0 => absurd c0 (by decide +kernel)) (fun _ => ?_)
  refine lv_aload_n hx hb dL_isStep_357 rfl (lv_at hl 4 rfl) ?_
  have L9 : ([] ++ [113] ++ [48 + jq] ++ [61] ++ dg ct ++ [44] ++ dg wt : List Nat).length ≤ 80 := by have d0 := dg_le ct; have d1 := dg_le wt; simp only [List.length_append, List.length_cons, List.length_nil] <;> omega
  obtain ⟨zz, q9, ⟨z4, z5, z67⟩, a9, m9⟩ := A_carry (l := l) (D := D) (k := k) (B := B2) (A := A1) a8 hO x8 L9 (OE_q (j := jq) (c := ct) (w := wt) (by simp) x8.2 hj (by omega) (by omega))
  have tn1 : tn (nI 1) = 1 := tn_of rfl (by decide)
  obtain ⟨cu, cr⟩ := co_q (u := u) z4 z5 (z67 rfl).1 (z67 rfl).2
  obtain ⟨ci1, ci2⟩ := ci_ok (cu.trans eu) (cr.trans k1) hQ.1.2
  rw [tn1, ci1] at a9
  rw [tn1, ci2] at m9
  refine k_p (As := []) (rest := []) X hW m9 yw_X4_carryOut lk_L_49 ⟨Nat.le_of_ble_eq_true rfl, Nat.le_of_ble_eq_true rfl⟩ rfl hl.1 rfl (Nat.le_of_ble_eq_true rfl) ⟨Nat.zero_le _, Nat.zero_le _⟩ dL_isStep_358 (fun H locs hW => ?_)
  refine lv_iconst (v := nI 1) hx hb dL_isStep_361 (by decide +kernel) ?_
  refine lv_icmp_ne (tgt := 405) hx hb dL_isStep_362 (by decide) (fun c0 => absurd rfl c0) (fun _ => ?_)
  refine lv_aload_n hx hb dL_isStep_365 rfl (lv_at hl 5 rfl) ?_
  refine lv_iload hx hb dL_isStep_366 (lv_at hl 3 rfl) ?_
  refine lv_iconst (v := nI 0) hx hb dL_isStep_368 (by decide +kernel) ?_
  refine k_o (As := [.int (nI jq), .int (nI 0)]) (rest := []) X hW (A_of a1 (nI jq) (nI 0)) yw_X4_of lk_L_15 ⟨Nat.le_of_ble_eq_true rfl, Nat.le_of_ble_eq_true rfl⟩ rfl hl.1 rfl (Nat.le_of_ble_eq_true rfl) ⟨Nat.zero_le _, Nat.zero_le _⟩ dL_isStep_369 (fun H locs hW => ?_)
  refine k_top (y := nI ct) ((of_r hj).trans f0) ?_
  refine lv_iload hx hb dL_isStep_372 (lv_at hl 2 rfl) ?_
  refine lv_icmp_ne (tgt := 405) hx hb dL_isStep_374 (by decide) (fun c0 => absurd rfl c0) (fun _ => ?_)
  refine lv_aload_n hx hb dL_isStep_377 rfl (lv_at hl 5 rfl) ?_
  refine lv_iload hx hb dL_isStep_378 (lv_at hl 3 rfl) ?_
  refine lv_iconst (v := nI 1) hx hb dL_isStep_380 (by decide +kernel) ?_
  refine k_o (As := [.int (nI jq), .int (nI 1)]) (rest := []) X hW (A_of a1 (nI jq) (nI 1)) yw_X4_of lk_L_15 ⟨Nat.le_of_ble_eq_true rfl, Nat.le_of_ble_eq_true rfl⟩ rfl hl.1 rfl (Nat.le_of_ble_eq_true rfl) ⟨Nat.zero_le _, Nat.zero_le _⟩ dL_isStep_381 (fun H locs hW => ?_)
  refine k_top (y := nI wt) ((of_r hj).trans f1) ?_
  refine lv_iload hx hb dL_isStep_384 (lv_at hl 1 rfl) ?_
  refine lv_icmp_ne (tgt := 405) hx hb dL_isStep_386 (by decide) (fun c0 => absurd rfl c0) (fun _ => ?_)
  refine lv_aload_n hx hb dL_isStep_389 rfl (lv_at hl 5 rfl) ?_
  refine lv_iload hx hb dL_isStep_390 (lv_at hl 3 rfl) ?_
  refine lv_iconst (v := nI 2) hx hb dL_isStep_392 (by decide +kernel) ?_
  refine k_o (As := [.int (nI jq), .int (nI 2)]) (rest := []) X hW (A_of a1 (nI jq) (nI 2)) yw_X4_of lk_L_15 ⟨Nat.le_of_ble_eq_true rfl, Nat.le_of_ble_eq_true rfl⟩ rfl hl.1 rfl (Nat.le_of_ble_eq_true rfl) ⟨Nat.zero_le _, Nat.zero_le _⟩ dL_isStep_393 (fun H locs hW => ?_)
  refine k_top (y := nI ct) ((of_r hj).trans f2) ?_
  refine lv_iload hx hb dL_isStep_396 (lv_at hl 2 rfl) ?_
  refine lv_icmp_ne (tgt := 405) hx hb dL_isStep_398 (by decide) (fun c0 => absurd rfl c0) (fun _ => ?_)
  refine lv_iconst (v := nI 1) hx hb dL_isStep_401 (by decide +kernel) ?_
  refine lv_goto (tgt := 406) hx hb dL_isStep_402 (by decide) ?_
  exact fin _ _ _ _ _ _ hW dL_isStep_406 rfl ⟨_, _, _, _, _, a1, a9, hG.to k3 (by omega) (by omega) (by omega) (by omega), rfl⟩
set_option maxHeartbeats 1000000 in
set_option maxRecDepth 100000 in
theorem step_bounds (X : KX p s m args meth c cL_isStep 14 Ts RL D k P) (h : AT o u S sv) (g : AT q u S sv) (hG : GD u S sv T C) (hT9 : T + 99 ≤ 9999) (hC4 : C + 5 ≤ 400) (hj : jq < 3) (fin : ∀ (w : va_W) (H : Heap) (locs : List Loc) (pc : Nat) (ls : Array Slot) (v : Int32), KW D P s w H locs → decode cL_isStep pc = .ok (.ireturn, 1) → v = nI 1 → PW k B A0 B2 A1 (T + 99) (C + 5) w → W p l e (rmD 9) s m args below meth c H locs 0 0 Q (F0 m pc ls [.int v])) (hW : KW D P s (OW k B A0 o ++ OW k B2 A1 q) H locs) (hl : lv_has ls 14 [(5, .int (nI jq)), (4, .int z), (3, .int y), (1, .ref (B2 0)), (0, .ref (B 0))]) : W p l e (rmD 9) s m args below meth c H locs 0 0 Q (F0 m 213 ls []) := by
  have hx := X.hx
  have hb := X.hb
  refine lv_iconst (v := nI 1) hx hb dL_isStep_213 (by decide +kernel) ?_
  refine lv_iload_n hx hb dL_isStep_214 rfl (lv_at hl 2 rfl) ?_
  refine lv_iload hx hb dL_isStep_215 (lv_at hl 1 rfl) ?_
  refine lv_iconst (v := nI 2) hx hb dL_isStep_217 (by decide +kernel) ?_
  refine kSi (As := [.int z, .int (nI 2)]) (rest := [.int y, .int (nI 1)]) X hW (c_L_up l D k z 2 (by decide) (by decide)) yw_L_up lk_L_19 ⟨Nat.le_of_ble_eq_true rfl, Nat.le_of_ble_eq_true rfl⟩ rfl hl.1 rfl (Nat.le_of_ble_eq_true rfl) ⟨Nat.zero_le _, Nat.zero_le _⟩ dL_isStep_218 (fun H locs hW => ?_)
  obtain ⟨ba, e_ba⟩ : ∃ zq, upn z 2 = zq := ⟨_, rfl⟩
  have h_ba : ba < 2 := by rw [← e_ba]; exact upn_lt _ (by decide)
  refine k_top (y := nI ba) (congrArg nI e_ba) ?_
  refine lv_if_ne (tgt := 229) hx hb dL_isStep_221 (by decide) (fun ca => ?_) (fun ca => ?_)
  · refine lv_iconst (v := nI 5) hx hb dL_isStep_229 (by decide +kernel) ?_
    refine kSi (As := [.int y, .int (nI 5)]) (rest := [.int (nI 1)]) X hW (c_L_up l D k y 5 (by decide) (by decide)) yw_L_up lk_L_19 ⟨Nat.le_of_ble_eq_true rfl, Nat.le_of_ble_eq_true rfl⟩ rfl hl.1 rfl (Nat.le_of_ble_eq_true rfl) ⟨Nat.zero_le _, Nat.zero_le _⟩ dL_isStep_230 (fun H locs hW => ?_)
    obtain ⟨ct, e_ct⟩ : ∃ zq, upn y 5 = zq := ⟨_, rfl⟩
    have h_ct : ct < 5 := by rw [← e_ct]; exact upn_lt _ (by decide)
    refine k_top (y := nI ct) (congrArg nI e_ct) ?_
    refine lv_iadd hx hb dL_isStep_233 ?_
    refine k_top (y := nI (1 + ct)) (nI_add _ _) ?_
    refine lv_istore (lv' := [(7, .int (nI (1 + ct))), (5, .int (nI jq)), (4, .int z), (3, .int y), (1, .ref (B2 0)), (0, .ref (B 0))]) hx hb dL_isStep_234 hl (by decide) rfl (fun ls hl => ?_)
    refine lv_iconst (v := nI 1) hx hb dL_isStep_236 (by decide +kernel) ?_
    refine lv_iload_n hx hb dL_isStep_237 rfl (lv_at hl 3 rfl) ?_
    refine lv_bipush (v := nI 6) hx hb dL_isStep_238 (by decide +kernel) ?_
    refine lv_ishr hx hb dL_isStep_240 ?_
    refine lv_iload hx hb dL_isStep_241 (lv_at hl 2 rfl) ?_
    refine lv_iconst (v := nI 3) hx hb dL_isStep_243 (by decide +kernel) ?_
    refine lv_ishr hx hb dL_isStep_244 ?_
    refine lv_iconst (v := nI 2) hx hb dL_isStep_245 (by decide +kernel) ?_
    refine kSi (As := [.int (z >>> ((nI 3) &&& 31)), .int (nI 2)]) (rest := [.int (y >>> ((nI 6) &&& 31)), .int (nI 1)]) X hW (c_L_up l D k (z >>> ((nI 3) &&& 31)) 2 (by decide) (by decide)) yw_L_up lk_L_19 ⟨Nat.le_of_ble_eq_true rfl, Nat.le_of_ble_eq_true rfl⟩ rfl hl.1 rfl (Nat.le_of_ble_eq_true rfl) ⟨Nat.zero_le _, Nat.zero_le _⟩ dL_isStep_246 (fun H locs hW => ?_)
    obtain ⟨bb, e_bb⟩ : ∃ zq, upn (z >>> ((nI 3) &&& 31)) 2 = zq := ⟨_, rfl⟩
    have h_bb : bb < 2 := by rw [← e_bb]; exact upn_lt _ (by decide)
    refine k_top (y := nI bb) (congrArg nI e_bb) ?_
    refine lv_if_ne (tgt := 257) hx hb dL_isStep_249 (by decide) (fun cb => ?_) (fun cb => ?_)
    · refine lv_bipush (v := nI 9) hx hb dL_isStep_257 (by decide +kernel) ?_
      refine kSi (As := [.int (y >>> ((nI 6) &&& 31)), .int (nI 9)]) (rest := [.int (nI 1)]) X hW (c_L_up l D k (y >>> ((nI 6) &&& 31)) 9 (by decide) (by decide)) yw_L_up lk_L_19 ⟨Nat.le_of_ble_eq_true rfl, Nat.le_of_ble_eq_true rfl⟩ rfl hl.1 rfl (Nat.le_of_ble_eq_true rfl) ⟨Nat.zero_le _, Nat.zero_le _⟩ dL_isStep_259 (fun H locs hW => ?_)
      obtain ⟨wt, e_wt⟩ : ∃ zq, upn (y >>> ((nI 6) &&& 31)) 9 = zq := ⟨_, rfl⟩
      have h_wt : wt < 9 := by rw [← e_wt]; exact upn_lt _ (by decide)
      refine k_top (y := nI wt) (congrArg nI e_wt) ?_
      refine lv_iadd hx hb dL_isStep_262 ?_
      refine k_top (y := nI (1 + wt)) (nI_add _ _) ?_
      refine lv_istore (lv' := [(8, .int (nI (1 + wt))), (7, .int (nI (1 + ct))), (5, .int (nI jq)), (4, .int z), (3, .int y), (1, .ref (B2 0)), (0, .ref (B 0))]) hx hb dL_isStep_263 hl (by decide) rfl (fun ls hl => ?_)
      exact step_bounds_tail X h g hG hT9 hC4 hj fin hW (ct := 1 + ct) (wt := 1 + wt) (by omega) (by omega) (by omega) (by omega) (lv_sub hl [0, 1, 2, 5, 6] rfl)
    · refine lv_bipush (v := nI 99) hx hb dL_isStep_252 (by decide +kernel) ?_
      refine lv_goto (tgt := 259) hx hb dL_isStep_254 (by decide) ?_
      refine kSi (As := [.int (y >>> ((nI 6) &&& 31)), .int (nI 99)]) (rest := [.int (nI 1)]) X hW (c_L_up l D k (y >>> ((nI 6) &&& 31)) 99 (by decide) (by decide)) yw_L_up lk_L_19 ⟨Nat.le_of_ble_eq_true rfl, Nat.le_of_ble_eq_true rfl⟩ rfl hl.1 rfl (Nat.le_of_ble_eq_true rfl) ⟨Nat.zero_le _, Nat.zero_le _⟩ dL_isStep_259 (fun H locs hW => ?_)
      obtain ⟨wt, e_wt⟩ : ∃ zq, upn (y >>> ((nI 6) &&& 31)) 99 = zq := ⟨_, rfl⟩
      have h_wt : wt < 99 := by rw [← e_wt]; exact upn_lt _ (by decide)
      refine k_top (y := nI wt) (congrArg nI e_wt) ?_
      refine lv_iadd hx hb dL_isStep_262 ?_
      refine k_top (y := nI (1 + wt)) (nI_add _ _) ?_
      refine lv_istore (lv' := [(8, .int (nI (1 + wt))), (7, .int (nI (1 + ct))), (5, .int (nI jq)), (4, .int z), (3, .int y), (1, .ref (B2 0)), (0, .ref (B 0))]) hx hb dL_isStep_263 hl (by decide) rfl (fun ls hl => ?_)
      exact step_bounds_tail X h g hG hT9 hC4 hj fin hW (ct := 1 + ct) (wt := 1 + wt) (by omega) (by omega) (by omega) (by omega) (lv_sub hl [0, 1, 2, 5, 6] rfl)
  · refine lv_bipush (v := nI 32) hx hb dL_isStep_224 (by decide +kernel) ?_
    refine lv_goto (tgt := 230) hx hb dL_isStep_226 (by decide) ?_
    refine kSi (As := [.int y, .int (nI 32)]) (rest := [.int (nI 1)]) X hW (c_L_up l D k y 32 (by decide) (by decide)) yw_L_up lk_L_19 ⟨Nat.le_of_ble_eq_true rfl, Nat.le_of_ble_eq_true rfl⟩ rfl hl.1 rfl (Nat.le_of_ble_eq_true rfl) ⟨Nat.zero_le _, Nat.zero_le _⟩ dL_isStep_230 (fun H locs hW => ?_)
    obtain ⟨ct, e_ct⟩ : ∃ zq, upn y 32 = zq := ⟨_, rfl⟩
    have h_ct : ct < 32 := by rw [← e_ct]; exact upn_lt _ (by decide)
    refine k_top (y := nI ct) (congrArg nI e_ct) ?_
    refine lv_iadd hx hb dL_isStep_233 ?_
    refine k_top (y := nI (1 + ct)) (nI_add _ _) ?_
    refine lv_istore (lv' := [(7, .int (nI (1 + ct))), (5, .int (nI jq)), (4, .int z), (3, .int y), (1, .ref (B2 0)), (0, .ref (B 0))]) hx hb dL_isStep_234 hl (by decide) rfl (fun ls hl => ?_)
    refine lv_iconst (v := nI 1) hx hb dL_isStep_236 (by decide +kernel) ?_
    refine lv_iload_n hx hb dL_isStep_237 rfl (lv_at hl 3 rfl) ?_
    refine lv_bipush (v := nI 6) hx hb dL_isStep_238 (by decide +kernel) ?_
    refine lv_ishr hx hb dL_isStep_240 ?_
    refine lv_iload hx hb dL_isStep_241 (lv_at hl 2 rfl) ?_
    refine lv_iconst (v := nI 3) hx hb dL_isStep_243 (by decide +kernel) ?_
    refine lv_ishr hx hb dL_isStep_244 ?_
    refine lv_iconst (v := nI 2) hx hb dL_isStep_245 (by decide +kernel) ?_
    refine kSi (As := [.int (z >>> ((nI 3) &&& 31)), .int (nI 2)]) (rest := [.int (y >>> ((nI 6) &&& 31)), .int (nI 1)]) X hW (c_L_up l D k (z >>> ((nI 3) &&& 31)) 2 (by decide) (by decide)) yw_L_up lk_L_19 ⟨Nat.le_of_ble_eq_true rfl, Nat.le_of_ble_eq_true rfl⟩ rfl hl.1 rfl (Nat.le_of_ble_eq_true rfl) ⟨Nat.zero_le _, Nat.zero_le _⟩ dL_isStep_246 (fun H locs hW => ?_)
    obtain ⟨bb, e_bb⟩ : ∃ zq, upn (z >>> ((nI 3) &&& 31)) 2 = zq := ⟨_, rfl⟩
    have h_bb : bb < 2 := by rw [← e_bb]; exact upn_lt _ (by decide)
    refine k_top (y := nI bb) (congrArg nI e_bb) ?_
    refine lv_if_ne (tgt := 257) hx hb dL_isStep_249 (by decide) (fun cb => ?_) (fun cb => ?_)
    · refine lv_bipush (v := nI 9) hx hb dL_isStep_257 (by decide +kernel) ?_
      refine kSi (As := [.int (y >>> ((nI 6) &&& 31)), .int (nI 9)]) (rest := [.int (nI 1)]) X hW (c_L_up l D k (y >>> ((nI 6) &&& 31)) 9 (by decide) (by decide)) yw_L_up lk_L_19 ⟨Nat.le_of_ble_eq_true rfl, Nat.le_of_ble_eq_true rfl⟩ rfl hl.1 rfl (Nat.le_of_ble_eq_true rfl) ⟨Nat.zero_le _, Nat.zero_le _⟩ dL_isStep_259 (fun H locs hW => ?_)
      obtain ⟨wt, e_wt⟩ : ∃ zq, upn (y >>> ((nI 6) &&& 31)) 9 = zq := ⟨_, rfl⟩
      have h_wt : wt < 9 := by rw [← e_wt]; exact upn_lt _ (by decide)
      refine k_top (y := nI wt) (congrArg nI e_wt) ?_
      refine lv_iadd hx hb dL_isStep_262 ?_
      refine k_top (y := nI (1 + wt)) (nI_add _ _) ?_
      refine lv_istore (lv' := [(8, .int (nI (1 + wt))), (7, .int (nI (1 + ct))), (5, .int (nI jq)), (4, .int z), (3, .int y), (1, .ref (B2 0)), (0, .ref (B 0))]) hx hb dL_isStep_263 hl (by decide) rfl (fun ls hl => ?_)
      exact step_bounds_tail X h g hG hT9 hC4 hj fin hW (ct := 1 + ct) (wt := 1 + wt) (by omega) (by omega) (by omega) (by omega) (lv_sub hl [0, 1, 2, 5, 6] rfl)
    · refine lv_bipush (v := nI 99) hx hb dL_isStep_252 (by decide +kernel) ?_
      refine lv_goto (tgt := 259) hx hb dL_isStep_254 (by decide) ?_
      refine kSi (As := [.int (y >>> ((nI 6) &&& 31)), .int (nI 99)]) (rest := [.int (nI 1)]) X hW (c_L_up l D k (y >>> ((nI 6) &&& 31)) 99 (by decide) (by decide)) yw_L_up lk_L_19 ⟨Nat.le_of_ble_eq_true rfl, Nat.le_of_ble_eq_true rfl⟩ rfl hl.1 rfl (Nat.le_of_ble_eq_true rfl) ⟨Nat.zero_le _, Nat.zero_le _⟩ dL_isStep_259 (fun H locs hW => ?_)
      obtain ⟨wt, e_wt⟩ : ∃ zq, upn (y >>> ((nI 6) &&& 31)) 99 = zq := ⟨_, rfl⟩
      have h_wt : wt < 99 := by rw [← e_wt]; exact upn_lt _ (by decide)
      refine k_top (y := nI wt) (congrArg nI e_wt) ?_
      refine lv_iadd hx hb dL_isStep_262 ?_
      refine k_top (y := nI (1 + wt)) (nI_add _ _) ?_
      refine lv_istore (lv' := [(8, .int (nI (1 + wt))), (7, .int (nI (1 + ct))), (5, .int (nI jq)), (4, .int z), (3, .int y), (1, .ref (B2 0)), (0, .ref (B 0))]) hx hb dL_isStep_263 hl (by decide) rfl (fun ls hl => ?_)
      exact step_bounds_tail X h g hG hT9 hC4 hj fin hW (ct := 1 + ct) (wt := 1 + wt) (by omega) (by omega) (by omega) (by omega) (lv_sub hl [0, 1, 2, 5, 6] rfl)
end
