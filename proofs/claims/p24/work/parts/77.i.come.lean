section
variable {p : Program} {l : Launch} {e : Env} {s : State} {m : MethodId} {args : Array Value} {below : List Frame} {meth : Method} {c : Code} {Ts : List Cond} {D : va_G} {k : Nat → ClassId} {P : Nat → Prop} {Q : State → Prop} {B B2 : Nat → Nat} {A0 A1 : Nat → Nat → Nat} {H : Heap} {locs : List Loc} {ls : Array Slot} {o q : OB} {u : CS} {S : Nat → CS} {sv : Nat → Int32} {T C : Nat} {x y z : Int32} {jq : Nat}
set_option maxHeartbeats 1000000 in
set_option maxRecDepth 100000 in
theorem step_cloop (X : KX p s m args meth c cL_isStep 14 Ts RL D k P) {t n f : Nat} {v10 v9 : Int32} (hw : WL u t) (hf : f ≤ 99) (hn : cn u + n ≤ 400)
    (kk : ∀ (o : OB), AT o (lp_rc (nI f) n u) S sv → ∀ (H : Heap) (locs : List Loc) (ls : Array Slot), KW D P s (OW k B A0 o ++ OW k B2 A1 q) H locs → lv_has ls 14 [(11, .int (nI 1)), (10, .int v10), (9, .int v9), (8, .int (nI n)), (7, .int (nI f)), (6, .int (nI (cn u))), (1, .ref (B2 0)), (0, .ref (B 0))] → W p l e (rmD 9) s m args below meth c H locs 0 0 Q (F0 m 1022 ls [])) :
    ∀ (r i : Nat), i + r = n → ∀ (o : OB), AT o (lp_rc (nI f) i u) S sv → ∀ (H : Heap) (locs : List Loc) (ls : Array Slot), KW D P s (OW k B A0 o ++ OW k B2 A1 q) H locs → lv_has ls 14 [(12, .int (nI i)), (11, .int (nI 1)), (10, .int v10), (9, .int v9), (8, .int (nI n)), (7, .int (nI f)), (6, .int (nI (cn u))), (1, .ref (B2 0)), (0, .ref (B 0))] → W p l e (rmD 9) s m args below meth c H locs 0 0 Q (F0 m 967 ls []) := by
  have hx := X.hx
  have hb := X.hb
  intro r
  induction r with
  | zero =>
    intro i hi o h H locs ls hW hl
    have hi : i = n := by omega
    subst hi
    refine lv_iload hx hb dL_isStep_967 (lv_at hl 0 rfl) ?_
    refine lv_iload hx hb dL_isStep_969 (lv_at hl 4 rfl) ?_
    refine lv_icmp_ge (tgt := 1022) hx hb dL_isStep_971 (by decide) (fun _ => ?_) (fun c0 => absurd (Int32.le_refl _) c0)
    exact kk _ h _ _ _ hW (lv_sub hl [1, 2, 3, 4, 5, 6, 7, 8] rfl)
  | succ r ih =>
    intro i hi o h H locs ls hW hl
    obtain ⟨w1, wc, -⟩ := rc_all hf i hw (by omega)
    obtain ⟨v1, v2, v3, -⟩ := WL_recv w1 hf (by omega)
    rw [wc] at v1
    have hO := w1.okc
    refine lv_iload hx hb dL_isStep_967 (lv_at hl 0 rfl) ?_
    refine lv_iload hx hb dL_isStep_969 (lv_at hl 4 rfl) ?_
    refine lv_icmp_ge (tgt := 1022) hx hb dL_isStep_971 (by decide) (fun c0 => absurd c0 (fun z => by rw [nI_leI (by omega) (by omega)] at z; omega)) (fun _ => ?_)
    refine lv_iload hx hb dL_isStep_974 (lv_at hl 1 rfl) ?_
    refine lv_if_eq (tgt := 1013) hx hb dL_isStep_976 (by decide) (fun c0 => absurd c0 (by decide +kernel)) (fun _ => ?_)
    refine lv_aload_n hx hb dL_isStep_979 rfl (lv_at hl 8 rfl) ?_
    refine lv_iload hx hb dL_isStep_980 (lv_at hl 5 rfl) ?_
    refine k_o (As := [.int (nI f)]) (rest := []) X hW (A_come h hO (nI f)) yw_X4_come lk_L_84 ⟨Nat.le_of_ble_eq_true rfl, Nat.le_of_ble_eq_true rfl⟩ rfl hl.1 rfl (Nat.le_of_ble_eq_true rfl) ⟨Nat.zero_le _, Nat.zero_le _⟩ dL_isStep_982 (fun H locs hW => ?_)
    have a1 := AT_chg (r := m_X0_receive_r (lp_rc (nI f) i u) (nI f)) (u' := m_X0_receive_u (lp_rc (nI f) i u) (nI f)) h
    obtain ⟨o1, e_o1⟩ : ∃ zq, oChg o (m_X0_receive_u (lp_rc (nI f) i u) (nI f)) (m_X0_receive_r (lp_rc (nI f) i u) (nI f)) = zq := ⟨_, rfl⟩
    rw [e_o1] at hW a1
    refine k_top (y := nI (cn u + i)) v1 ?_
    refine lv_iload hx hb dL_isStep_985 (lv_at hl 6 rfl) ?_
    refine lv_iload hx hb dL_isStep_987 (lv_at hl 0 rfl) ?_
    refine lv_iadd hx hb dL_isStep_989 ?_
    refine k_top (y := nI (cn u + i)) (nI_add _ _) ?_
    refine lv_sipush (v := nI 400) hx hb dL_isStep_990 (by decide +kernel) ?_
    refine lv_icmp_ge (tgt := 1004) hx hb dL_isStep_993 (by decide) (fun c0 => absurd c0 (fun z => by rw [nI_leI (by decide) (by omega)] at z; omega)) (fun _ => ?_)
    refine lv_iload hx hb dL_isStep_996 (lv_at hl 6 rfl) ?_
    refine lv_iload hx hb dL_isStep_998 (lv_at hl 0 rfl) ?_
    refine lv_iadd hx hb dL_isStep_1000 ?_
    refine k_top (y := nI (cn u + i)) (nI_add _ _) ?_
    refine lv_goto (tgt := 1006) hx hb dL_isStep_1001 (by decide) ?_
    refine lv_icmp_ne (tgt := 1013) hx hb dL_isStep_1006 (by decide) (fun c0 => absurd rfl c0) (fun _ => ?_)
    refine lv_iconst (v := nI 1) hx hb dL_isStep_1009 (by decide +kernel) ?_
    refine lv_goto (tgt := 1014) hx hb dL_isStep_1010 (by decide) ?_
    refine lv_istore (lv' := [(11, .int (nI 1)), (12, .int (nI i)), (10, .int v10), (9, .int v9), (8, .int (nI n)), (7, .int (nI f)), (6, .int (nI (cn u))), (1, .ref (B2 0)), (0, .ref (B 0))]) hx hb dL_isStep_1014 hl (by decide) rfl (fun ls hl => ?_)
    refine lv_iinc (v := nI (i + 1)) (lv' := [(12, .int (nI (i + 1))), (11, .int (nI 1)), (10, .int v10), (9, .int v9), (8, .int (nI n)), (7, .int (nI f)), (6, .int (nI (cn u))), (1, .ref (B2 0)), (0, .ref (B 0))]) hx hb dL_isStep_1016 hl (k := 1) rfl (k_inc _) (by decide) rfl (fun ls hl => ?_)
    refine lv_goto (tgt := 967) hx hb dL_isStep_1019 (by decide) ?_
    exact ih (i + 1) (by omega) _ a1 _ _ _ hW (lv_sub hl [0, 1, 2, 3, 4, 5, 6, 7, 8] rfl)
set_option maxHeartbeats 1000000 in
set_option maxRecDepth 100000 in
theorem step_come_tail (X : KX p s m args meth c cL_isStep 14 Ts RL D k P) {t n f ft : Nat} (h : AT o (lp_rc (nI f) n u) S sv) (g : AT q u S sv) (hw : WL u t) (hf : f ≤ 99) (hn9 : n ≤ 99) (hn4 : cn u + n ≤ 400) (w1 : WL (lp_rc (nI f) n u) t) (w2 : cn (lp_rc (nI f) n u) = cn u + n) (w5 : dr (lp_rc (nI f) n u) = dr u + (n - ft)) (lD : dr u ≤ 1200) (hft : ft ≤ 400) (hG : GD u S sv T C) (hT9 : T + 99 ≤ 9999) (hC4 : C + 5 ≤ 400) (ht : t ≤ T) (hcC : cn u ≤ C) (hn5 : n ≤ 5) (fin : ∀ (w : va_W) (H : Heap) (locs : List Loc) (pc : Nat) (ls : Array Slot) (v : Int32), KW D P s w H locs → decode cL_isStep pc = .ok (.ireturn, 1) → v = nI 1 → PW k B A0 B2 A1 (T + 99) (C + 5) w → W p l e (rmD 9) s m args below meth c H locs 0 0 Q (F0 m pc ls [.int v])) :
    ∀ (H : Heap) (locs : List Loc) (ls : Array Slot), KW D P s (OW k B A0 o ++ OW k B2 A1 q) H locs → lv_has ls 14 [(13, .int (nI ft)), (12, .int (nI n)), (11, .int (nI 1)), (10, .int (nI (dr u))), (8, .int (nI n)), (7, .int (nI f)), (1, .ref (B2 0)), (0, .ref (B 0))] → W p l e (rmD 9) s m args below meth c H locs 0 0 Q (F0 m 1059 ls []) := by
  have hx := X.hx
  have hb := X.hb
  have hO := hw.okc
  intro H locs ls hW hl
  refine lv_iload hx hb dL_isStep_1059 (lv_at hl 2 rfl) ?_
  refine lv_if_eq (tgt := 1149) hx hb dL_isStep_1061 (by decide) (fun c0 => absurd c0 (by decide +kernel)) (fun _ => ?_)
  refine lv_aload_n hx hb dL_isStep_1064 rfl (lv_at hl 6 rfl) ?_
  obtain ⟨q1, n1, hn1, a1, x1, m1⟩ := A_wipe (l := l) (D := D) (k := k) (B := B2) (A := A1) g
  refine k_p (As := []) (rest := []) X hW m1 yw_X4_wipe lk_L_35 ⟨Nat.le_of_ble_eq_true rfl, Nat.le_of_ble_eq_true rfl⟩ rfl hl.1 rfl (Nat.le_of_ble_eq_true rfl) ⟨Nat.zero_le _, Nat.zero_le _⟩ dL_isStep_1065 (fun H locs hW => ?_)
  refine lv_if_lt (tgt := 1149) hx hb dL_isStep_1068 (by decide) (fun c0 => absurd c0 (nI_pos hn1)) (fun _ => ?_)
  refine lv_aload_n hx hb dL_isStep_1071 rfl (lv_at hl 6 rfl) ?_
  refine lv_ldc2 (v := 102) hx hb X.hown (X.wd kl_L_87) dL_isStep_1072 ?_
  have L2 : ([] : List Nat).length < 80 := by have d0 := dg_le f; have d1 := dg_le n; simp only [List.length_append, List.length_cons, List.length_nil] <;> omega
  obtain ⟨q2, a2, x2, m2⟩ := A_put (l := l) (D := D) (k := k) (B := B2) (A := A1) a1 x1 L2 (x := 102) (c := 102) (by decide +kernel) (by decide) (by decide)
  refine k_p (As := [.long 102]) (rest := []) X hW m2 yw_X4_put lk_L_9 ⟨Nat.le_of_ble_eq_true rfl, Nat.le_of_ble_eq_true rfl⟩ rfl hl.1 rfl (Nat.le_of_ble_eq_true rfl) ⟨Nat.zero_le _, Nat.zero_le _⟩ dL_isStep_1075 (fun H locs hW => ?_)
  refine lv_if_le (tgt := 1149) hx hb dL_isStep_1078 (by decide) (fun c0 => absurd c0 (pos1 L2)) (fun _ => ?_)
  refine lv_aload_n hx hb dL_isStep_1081 rfl (lv_at hl 6 rfl) ?_
  refine lv_iload hx hb dL_isStep_1082 (lv_at hl 5 rfl) ?_
  have L3 : ([] ++ [102] : List Nat).length + 2 ≤ 80 := by have d0 := dg_le f; have d1 := dg_le n; simp only [List.length_append, List.length_cons, List.length_nil] <;> omega
  obtain ⟨q3, a3, x3, m3⟩ := A_number (l := l) (D := D) (k := k) (B := B2) (A0 := A1) (v := f) a2 x2 L3 (by omega)
  refine kSw (As := [.ref (B2 0), .int (nI f)]) (rest := []) X hW m3 yw_L_number lk_L_43 ⟨Nat.le_of_ble_eq_true rfl, Nat.le_of_ble_eq_true rfl⟩ (wr := OW k B A0 o) (w' := OW k B A0 o ++ OW k B2 A1 q3) (List.Perm.refl _) (List.Perm.refl _) rfl hl.1 rfl (Nat.le_of_ble_eq_true rfl) ⟨Nat.zero_le _, Nat.zero_le _⟩ dL_isStep_1084 (fun H locs hW => ?_)
  refine lv_if_eq (tgt := 1149) hx hb dL_isStep_1087 (by decide) (fun c0 => absurd c0 (by decide +kernel)) (fun _ => ?_)
  refine lv_aload_n hx hb dL_isStep_1090 rfl (lv_at hl 6 rfl) ?_
  refine lv_ldc2 (v := 42) hx hb X.hown (X.wd kl_L_89) dL_isStep_1091 ?_
  have L4 : ([] ++ [102] ++ dg f : List Nat).length < 80 := by have d0 := dg_le f; have d1 := dg_le n; simp only [List.length_append, List.length_cons, List.length_nil] <;> omega
  obtain ⟨q4, a4, x4, m4⟩ := A_put (l := l) (D := D) (k := k) (B := B2) (A := A1) a3 x3 L4 (x := 42) (c := 42) (by decide +kernel) (by decide) (by decide)
  refine k_p (As := [.long 42]) (rest := []) X hW m4 yw_X4_put lk_L_9 ⟨Nat.le_of_ble_eq_true rfl, Nat.le_of_ble_eq_true rfl⟩ rfl hl.1 rfl (Nat.le_of_ble_eq_true rfl) ⟨Nat.zero_le _, Nat.zero_le _⟩ dL_isStep_1094 (fun H locs hW => ?_)
  refine lv_if_le (tgt := 1149) hx hb dL_isStep_1097 (by decide) (fun c0 => absurd c0 (pos1 L4)) (fun _ => ?_)
  refine lv_aload_n hx hb dL_isStep_1100 rfl (lv_at hl 6 rfl) ?_
  refine lv_iload hx hb dL_isStep_1101 (lv_at hl 4 rfl) ?_
  have L5 : ([] ++ [102] ++ dg f ++ [42] : List Nat).length + 2 ≤ 80 := by have d0 := dg_le f; have d1 := dg_le n; simp only [List.length_append, List.length_cons, List.length_nil] <;> omega
  obtain ⟨q5, a5, x5, m5⟩ := A_number (l := l) (D := D) (k := k) (B := B2) (A0 := A1) (v := n) a4 x4 L5 (by omega)
  refine kSw (As := [.ref (B2 0), .int (nI n)]) (rest := []) X hW m5 yw_L_number lk_L_43 ⟨Nat.le_of_ble_eq_true rfl, Nat.le_of_ble_eq_true rfl⟩ (wr := OW k B A0 o) (w' := OW k B A0 o ++ OW k B2 A1 q5) (List.Perm.refl _) (List.Perm.refl _) rfl hl.1 rfl (Nat.le_of_ble_eq_true rfl) ⟨Nat.zero_le _, Nat.zero_le _⟩ dL_isStep_1103 (fun H locs hW => ?_)
  refine lv_if_eq (tgt := 1149) hx hb dL_isStep_1106 (by decide) (fun c0 => absurd c0 (by decide +kernel)) (fun _ => ?_)
  refine lv_aload_n hx hb dL_isStep_1109 rfl (lv_at hl 6 rfl) ?_
  have L6 : ([] ++ [102] ++ dg f ++ [42] ++ dg n : List Nat).length ≤ 80 := by have d0 := dg_le f; have d1 := dg_le n; simp only [List.length_append, List.length_cons, List.length_nil] <;> omega
  obtain ⟨zz, q6, ⟨z4, z5, z67⟩, a6, m6⟩ := A_carry (l := l) (D := D) (k := k) (B := B2) (A := A1) a5 hO x5 L6 (OE_f (f := f) (n := n) (by simp) x5.2 hf hn9)
  have tn1 : tn (nI n) = n := tn_of rfl (by omega)
  obtain ⟨ci1, ci2⟩ := ci_f (T := t) z4 z5 hf n 0 hw hn4
  rw [Nat.zero_add] at ci2
  rw [tn1, ci1] at a6
  rw [tn1, ci2] at m6
  refine k_p (As := []) (rest := []) X hW m6 yw_X4_carryOut lk_L_49 ⟨Nat.le_of_ble_eq_true rfl, Nat.le_of_ble_eq_true rfl⟩ rfl hl.1 rfl (Nat.le_of_ble_eq_true rfl) ⟨Nat.zero_le _, Nat.zero_le _⟩ dL_isStep_1110 (fun H locs hW => ?_)
  refine lv_iload hx hb dL_isStep_1113 (lv_at hl 1 rfl) ?_
  refine lv_icmp_ne (tgt := 1149) hx hb dL_isStep_1115 (by decide) (fun c0 => absurd rfl c0) (fun _ => ?_)
  refine lv_aload_n hx hb dL_isStep_1118 rfl (lv_at hl 7 rfl) ?_
  refine lv_iconst (v := nI 4) hx hb dL_isStep_1119 (by decide +kernel) ?_
  refine k_o (As := [.int (nI 4)]) (rest := []) X hW (A_count h (j := 4) (by decide)) yw_X4_count lk_L_24 ⟨Nat.le_of_ble_eq_true rfl, Nat.le_of_ble_eq_true rfl⟩ rfl hl.1 rfl (Nat.le_of_ble_eq_true rfl) ⟨Nat.zero_le _, Nat.zero_le _⟩ dL_isStep_1120 (fun H locs hW => ?_)
  refine k_top (y := nI (dr u + (n - ft))) ((ctr_4 _).trans ((tot_8 w1).trans (congrArg nI w5))) ?_
  refine lv_iload hx hb dL_isStep_1123 (lv_at hl 3 rfl) ?_
  refine lv_iload hx hb dL_isStep_1125 (lv_at hl 1 rfl) ?_
  refine lv_iload hx hb dL_isStep_1127 (lv_at hl 0 rfl) ?_
  refine lv_icmp_le (tgt := 1140) hx hb dL_isStep_1129 (by decide) (fun cl => ?_) (fun cl => ?_)
  · rw [nI_leI (by omega) (by omega)] at cl
    refine lv_iconst (v := nI 0) hx hb dL_isStep_1140 (by decide +kernel) ?_
    refine lv_iadd hx hb dL_isStep_1141 ?_
    refine k_top (y := nI (dr u + (n - ft))) (by rw [nI_add]; congr 1; omega) ?_
    refine lv_icmp_ne (tgt := 1149) hx hb dL_isStep_1142 (by decide) (fun c0 => absurd rfl c0) (fun _ => ?_)
    refine lv_iconst (v := nI 1) hx hb dL_isStep_1145 (by decide +kernel) ?_
    refine lv_goto (tgt := 1150) hx hb dL_isStep_1146 (by decide) ?_
    exact fin _ _ _ _ _ _ hW dL_isStep_1150 rfl ⟨_, _, _, _, _, h, a6, hG.to w1 (by omega) (by omega) (by omega) (by omega), rfl⟩
  · rw [nI_leI (by omega) (by omega)] at cl
    refine lv_iload hx hb dL_isStep_1132 (lv_at hl 1 rfl) ?_
    refine lv_iload hx hb dL_isStep_1134 (lv_at hl 0 rfl) ?_
    refine lv_isub hx hb dL_isStep_1136 ?_
    refine k_top (y := nI (n - ft)) (pk_sub (by omega)) ?_
    refine lv_goto (tgt := 1141) hx hb dL_isStep_1137 (by decide) ?_
    refine lv_iadd hx hb dL_isStep_1141 ?_
    refine k_top (y := nI (dr u + (n - ft))) (nI_add _ _) ?_
    refine lv_icmp_ne (tgt := 1149) hx hb dL_isStep_1142 (by decide) (fun c0 => absurd rfl c0) (fun _ => ?_)
    refine lv_iconst (v := nI 1) hx hb dL_isStep_1145 (by decide +kernel) ?_
    refine lv_goto (tgt := 1150) hx hb dL_isStep_1146 (by decide) ?_
    exact fin _ _ _ _ _ _ hW dL_isStep_1150 rfl ⟨_, _, _, _, _, h, a6, hG.to w1 (by omega) (by omega) (by omega) (by omega), rfl⟩
set_option maxHeartbeats 1000000 in
set_option maxRecDepth 100000 in
theorem step_come (X : KX p s m args meth c cL_isStep 14 Ts RL D k P) (h : AT o u S sv) (g : AT q u S sv) (hG : GD u S sv T C) (hT9 : T + 99 ≤ 9999) (hC4 : C + 5 ≤ 400) (hj : jq < 3) (fin : ∀ (w : va_W) (H : Heap) (locs : List Loc) (pc : Nat) (ls : Array Slot) (v : Int32), KW D P s w H locs → decode cL_isStep pc = .ok (.ireturn, 1) → v = nI 1 → PW k B A0 B2 A1 (T + 99) (C + 5) w → W p l e (rmD 9) s m args below meth c H locs 0 0 Q (F0 m pc ls [.int v])) (hW : KW D P s (OW k B A0 o ++ OW k B2 A1 q) H locs) (hl : lv_has ls 14 [(6, .int (nI (cn u))), (4, .int z), (3, .int y), (1, .ref (B2 0)), (0, .ref (B 0))]) : W p l e (rmD 9) s m args below meth c H locs 0 0 Q (F0 m 919 ls []) := by
  have hx := X.hx
  have hb := X.hb
  obtain ⟨⟨⟨t, ht, hw⟩, hcC⟩, hsl⟩ := id hG
  have hM := hw.1
  have hc := hM.2.1
  have hO := hw.okc
  have hQ := hw.2.2.2.2.1 jq hj
  refine lv_iload_n hx hb dL_isStep_919 rfl (lv_at hl 2 rfl) ?_
  refine lv_bipush (v := nI 100) hx hb dL_isStep_920 (by decide +kernel) ?_
  refine kSi (As := [.int y, .int (nI 100)]) (rest := []) X hW (c_L_up l D k y 100 (by decide) (by decide)) yw_L_up lk_L_19 ⟨Nat.le_of_ble_eq_true rfl, Nat.le_of_ble_eq_true rfl⟩ rfl hl.1 rfl (Nat.le_of_ble_eq_true rfl) ⟨Nat.zero_le _, Nat.zero_le _⟩ dL_isStep_922 (fun H locs hW => ?_)
  obtain ⟨f, e_f⟩ : ∃ zq, upn y 100 = zq := ⟨_, rfl⟩
  have h_f : f < 100 := by rw [← e_f]; exact upn_lt _ (by decide)
  refine k_top (y := nI f) (congrArg nI e_f) ?_
  refine lv_istore (lv' := [(7, .int (nI f)), (6, .int (nI (cn u))), (4, .int z), (3, .int y), (1, .ref (B2 0)), (0, .ref (B 0))]) hx hb dL_isStep_925 hl (by decide) rfl (fun ls hl => ?_)
  refine lv_iload hx hb dL_isStep_927 (lv_at hl 2 rfl) ?_
  refine lv_bipush (v := nI 6) hx hb dL_isStep_929 (by decide +kernel) ?_
  refine kSi (As := [.int z, .int (nI 6)]) (rest := []) X hW (c_L_up l D k z 6 (by decide) (by decide)) yw_L_up lk_L_19 ⟨Nat.le_of_ble_eq_true rfl, Nat.le_of_ble_eq_true rfl⟩ rfl hl.1 rfl (Nat.le_of_ble_eq_true rfl) ⟨Nat.zero_le _, Nat.zero_le _⟩ dL_isStep_931 (fun H locs hW => ?_)
  obtain ⟨n, e_n⟩ : ∃ zq, upn z 6 = zq := ⟨_, rfl⟩
  have h_n : n < 6 := by rw [← e_n]; exact upn_lt _ (by decide)
  refine k_top (y := nI n) (congrArg nI e_n) ?_
  have hf : f ≤ 99 := by omega
  have hj3 : f % 3 < 3 := Nat.mod_lt _ (by decide)
  obtain ⟨rr, er, rr1, rr2⟩ := hw.2.2.1.2
  have etr : tn (u 1 0) = rr := tn_of er (by omega)
  obtain ⟨w1, w2, w3, w4, w5⟩ := rc_all hf n hw (by omega)
  rw [etr] at w4 w5
  have lR : rg u (f % 3) ≤ 400 := Nat.le_trans (nS_le u (f % 3) (nI 0) (cn u)) (by omega)
  have lD : dr u ≤ 1200 := by
    have d0 := nS_le u 0 (nI 2) (cn u)
    have d1 := nS_le u 1 (nI 2) (cn u)
    have d2 := nS_le u 2 (nI 2) (cn u)
    unfold dr
    omega
  refine lv_istore (lv' := [(8, .int (nI n)), (7, .int (nI f)), (6, .int (nI (cn u))), (4, .int z), (3, .int y), (1, .ref (B2 0)), (0, .ref (B 0))]) hx hb dL_isStep_934 hl (by decide) rfl (fun ls hl => ?_)
  refine lv_aload_n hx hb dL_isStep_936 rfl (lv_at hl 6 rfl) ?_
  refine lv_bipush (v := nI 7) hx hb dL_isStep_937 (by decide +kernel) ?_
  refine k_o (As := [.int (nI 7)]) (rest := []) X hW (A_count h (j := 7) (by decide)) yw_X4_count lk_L_24 ⟨Nat.le_of_ble_eq_true rfl, Nat.le_of_ble_eq_true rfl⟩ rfl hl.1 rfl (Nat.le_of_ble_eq_true rfl) ⟨Nat.zero_le _, Nat.zero_le _⟩ dL_isStep_939 (fun H locs hW => ?_)
  refine k_top (y := nI rr) ((ctr_s (j := 0) (by decide)).trans er) ?_
  refine lv_aload_n hx hb dL_isStep_942 rfl (lv_at hl 6 rfl) ?_
  refine lv_iload hx hb dL_isStep_943 (lv_at hl 1 rfl) ?_
  refine lv_iconst (v := nI 3) hx hb dL_isStep_945 (by decide +kernel) ?_
  refine lv_irem hx hb dL_isStep_946 (by decide +kernel) ?_
  refine k_top (y := nI (f % 3)) (pk_rem (by omega) (by decide) (by decide)) ?_
  refine lv_iconst (v := nI 3) hx hb dL_isStep_947 (by decide +kernel) ?_
  refine k_o (As := [.int (nI (f % 3)), .int (nI 3)]) (rest := [.int (nI rr)]) X hW (A_of h (nI (f % 3)) (nI 3)) yw_X4_of lk_L_15 ⟨Nat.le_of_ble_eq_true rfl, Nat.le_of_ble_eq_true rfl⟩ rfl hl.1 rfl (Nat.le_of_ble_eq_true rfl) ⟨Nat.zero_le _, Nat.zero_le _⟩ dL_isStep_948 (fun H locs hW => ?_)
  refine k_top (y := nI (rg u (f % 3))) ((of_r hj3).trans (hw.2.2.2.2.1 (f % 3) hj3).2.1) ?_
  refine lv_isub hx hb dL_isStep_951 ?_
  refine lv_istore (lv' := [(9, .int ((nI rr) - (nI (rg u (f % 3))))), (8, .int (nI n)), (7, .int (nI f)), (6, .int (nI (cn u))), (4, .int z), (3, .int y), (1, .ref (B2 0)), (0, .ref (B 0))]) hx hb dL_isStep_952 hl (by decide) rfl (fun ls hl => ?_)
  refine lv_aload_n hx hb dL_isStep_954 rfl (lv_at hl 7 rfl) ?_
  refine lv_iconst (v := nI 4) hx hb dL_isStep_955 (by decide +kernel) ?_
  refine k_o (As := [.int (nI 4)]) (rest := []) X hW (A_count h (j := 4) (by decide)) yw_X4_count lk_L_24 ⟨Nat.le_of_ble_eq_true rfl, Nat.le_of_ble_eq_true rfl⟩ rfl hl.1 rfl (Nat.le_of_ble_eq_true rfl) ⟨Nat.zero_le _, Nat.zero_le _⟩ dL_isStep_956 (fun H locs hW => ?_)
  refine k_top (y := nI (dr u)) ((ctr_4 u).trans (tot_8 hw)) ?_
  refine lv_istore (lv' := [(10, .int (nI (dr u))), (9, .int ((nI rr) - (nI (rg u (f % 3))))), (8, .int (nI n)), (7, .int (nI f)), (6, .int (nI (cn u))), (4, .int z), (3, .int y), (1, .ref (B2 0)), (0, .ref (B 0))]) hx hb dL_isStep_959 hl (by decide) rfl (fun ls hl => ?_)
  refine lv_iconst (v := nI 1) hx hb dL_isStep_961 (by decide +kernel) ?_
  refine lv_istore (lv' := [(11, .int (nI 1)), (10, .int (nI (dr u))), (9, .int ((nI rr) - (nI (rg u (f % 3))))), (8, .int (nI n)), (7, .int (nI f)), (6, .int (nI (cn u))), (4, .int z), (3, .int y), (1, .ref (B2 0)), (0, .ref (B 0))]) hx hb dL_isStep_962 hl (by decide) rfl (fun ls hl => ?_)
  refine lv_iconst (v := nI 0) hx hb dL_isStep_964 (by decide +kernel) ?_
  refine lv_istore (lv' := [(12, .int (nI 0)), (11, .int (nI 1)), (10, .int (nI (dr u))), (9, .int ((nI rr) - (nI (rg u (f % 3))))), (8, .int (nI n)), (7, .int (nI f)), (6, .int (nI (cn u))), (4, .int z), (3, .int y), (1, .ref (B2 0)), (0, .ref (B 0))]) hx hb dL_isStep_965 hl (by decide) rfl (fun ls hl => ?_)
  refine step_cloop X (q := q) hw hf (by omega) ?_ n 0 (Nat.zero_add n) _ h _ _ _ hW (lv_sub hl [0, 1, 2, 3, 4, 5, 6, 9, 10] rfl)
  intro o h H locs ls hW hl
  refine lv_iload hx hb dL_isStep_1022 (lv_at hl 5 rfl) ?_
  refine lv_iload hx hb dL_isStep_1024 (lv_at hl 3 rfl) ?_
  refine lv_iadd hx hb dL_isStep_1026 ?_
  refine k_top (y := nI (cn u + n)) (nI_add _ _) ?_
  refine lv_sipush (v := nI 400) hx hb dL_isStep_1027 (by decide +kernel) ?_
  refine lv_icmp_le (tgt := 1042) hx hb dL_isStep_1030 (by decide) (fun _ => ?_) (fun c0 => absurd ((nI_leI (by omega) (by decide)).mpr (by omega)) c0)
  refine lv_iload hx hb dL_isStep_1042 (lv_at hl 3 rfl) ?_
  refine lv_istore (lv' := [(12, .int (nI n)), (11, .int (nI 1)), (10, .int (nI (dr u))), (9, .int (nI rr - nI (rg u (f % 3)))), (8, .int (nI n)), (7, .int (nI f)), (6, .int (nI (cn u))), (1, .ref (B2 0)), (0, .ref (B 0))]) hx hb dL_isStep_1044 hl (by decide) rfl (fun ls hl => ?_)
  refine lv_iload hx hb dL_isStep_1046 (lv_at hl 3 rfl) ?_
  obtain ⟨ft, eft⟩ : ∃ ft, rr - rg u (f % 3) = ft := ⟨_, rfl⟩
  rw [eft] at w5
  by_cases cf : rg u (f % 3) ≤ rr
  · have e9 : nI rr - nI (rg u (f % 3)) = nI ft := by rw [pk_sub cf, eft]
    rw [e9] at hl ⊢
    refine lv_if_ge (tgt := 1055) hx hb dL_isStep_1048 (by decide) (fun _ => ?_) (fun c0 => absurd (nI_pos' (by omega)) c0)
    refine lv_iload hx hb dL_isStep_1055 (lv_at hl 3 rfl) ?_
    refine lv_istore (lv' := [(13, .int (nI ft)), (12, .int (nI n)), (11, .int (nI 1)), (10, .int (nI (dr u))), (9, .int (nI ft)), (8, .int (nI n)), (7, .int (nI f)), (6, .int (nI (cn u))), (1, .ref (B2 0)), (0, .ref (B 0))]) hx hb dL_isStep_1057 hl (by decide) rfl (fun ls hl => ?_)
    exact step_come_tail X h g hw hf (by omega) (by omega) w1 w2 w5 lD (by omega) hG hT9 hC4 ht hcC (by omega) fin _ _ _ hW (lv_sub hl [0, 1, 2, 3, 5, 6, 8, 9] rfl)
  · have e0 : ft = 0 := by omega
    refine lv_if_ge (tgt := 1055) hx hb dL_isStep_1048 (by decide) (fun c0 => absurd c0 (Int32.not_le.mpr (pk_sneg (by omega) (by omega)))) (fun _ => ?_)
    refine lv_iconst (v := nI 0) hx hb dL_isStep_1051 (by decide +kernel) ?_
    refine lv_goto (tgt := 1057) hx hb dL_isStep_1052 (by decide) ?_
    refine k_top (y := nI ft) (by rw [e0]) ?_
    refine lv_istore (lv' := [(13, .int (nI ft)), (12, .int (nI n)), (11, .int (nI 1)), (10, .int (nI (dr u))), (9, .int (nI rr - nI (rg u (f % 3)))), (8, .int (nI n)), (7, .int (nI f)), (6, .int (nI (cn u))), (1, .ref (B2 0)), (0, .ref (B 0))]) hx hb dL_isStep_1057 hl (by decide) rfl (fun ls hl => ?_)
    exact step_come_tail X h g hw hf (by omega) (by omega) w1 w2 w5 lD (by omega) hG hT9 hC4 ht hcC (by omega) fin _ _ _ hW (lv_sub hl [0, 1, 2, 3, 5, 6, 8, 9] rfl)
end
