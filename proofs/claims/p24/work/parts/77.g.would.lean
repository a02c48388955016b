section
variable {p : Program} {l : Launch} {e : Env} {s : State} {m : MethodId} {args : Array Value} {below : List Frame} {meth : Method} {c : Code} {Ts : List Cond} {D : va_G} {k : Nat → ClassId} {P : Nat → Prop} {Q : State → Prop} {B B2 : Nat → Nat} {A0 A1 : Nat → Nat → Nat} {H : Heap} {locs : List Loc} {ls : Array Slot} {o q : OB} {u : CS} {S : Nat → CS} {sv : Nat → Int32} {T C : Nat} {x y z : Int32} {jq : Nat}
set_option maxHeartbeats 1000000 in
set_option maxRecDepth 100000 in
theorem step_would (X : KX p s m args meth c cL_isStep 14 Ts RL D k P) (h : AT o u S sv) (g : AT q u S sv) (hG : GD u S sv T C) (hT9 : T + 99 ≤ 9999) (hC4 : C + 5 ≤ 400) (hj : jq < 3) (fin : ∀ (w : va_W) (H : Heap) (locs : List Loc) (pc : Nat) (ls : Array Slot) (v : Int32), KW D P s w H locs → decode cL_isStep pc = .ok (.ireturn, 1) → v = nI 1 → PW k B A0 B2 A1 (T + 99) (C + 5) w → W p l e (rmD 9) s m args below meth c H locs 0 0 Q (F0 m pc ls [.int v])) (hW : KW D P s (OW k B A0 o ++ OW k B2 A1 q) H locs) (hl : lv_has ls 14 [(3, .int y), (1, .ref (B2 0)), (0, .ref (B 0))]) : W p l e (rmD 9) s m args below meth c H locs 0 0 Q (F0 m 756 ls []) := by
  have hx := X.hx
  have hb := X.hb
  obtain ⟨⟨⟨t, ht, hw⟩, hcC⟩, hsl⟩ := id hG
  have hM := hw.1
  have hc := hM.2.1
  have hO := hw.okc
  have hQ := hw.2.2.2.2.1 jq hj
  refine lv_iconst (v := nI 1) hx hb dL_isStep_756 (by decide +kernel) ?_
  refine lv_iload_n hx hb dL_isStep_757 rfl (lv_at hl 0 rfl) ?_
  refine lv_bipush (v := nI 99) hx hb dL_isStep_758 (by decide +kernel) ?_
  refine kSi (As := [.int y, .int (nI 99)]) (rest := [.int (nI 1)]) X hW (c_L_up l D k y 99 (by decide) (by decide)) yw_L_up lk_L_19 ⟨Nat.le_of_ble_eq_true rfl, Nat.le_of_ble_eq_true rfl⟩ rfl hl.1 rfl (Nat.le_of_ble_eq_true rfl) ⟨Nat.zero_le _, Nat.zero_le _⟩ dL_isStep_760 (fun H locs hW => ?_)
  obtain ⟨nt, e_nt⟩ : ∃ zq, upn y 99 = zq := ⟨_, rfl⟩
  have h_nt : nt < 99 := by rw [← e_nt]; exact upn_lt _ (by decide)
  refine k_top (y := nI nt) (congrArg nI e_nt) ?_
  refine lv_iadd hx hb dL_isStep_763 ?_
  refine k_top (y := nI (1 + nt)) (nI_add _ _) ?_
  obtain ⟨n, en⟩ : ∃ n, 1 + nt = n := ⟨_, rfl⟩
  have hn1 : 1 ≤ n := by omega
  have hn2 : n ≤ 99 := by omega
  rw [en]
  obtain ⟨w1, pm, pm1, pm2, pm3⟩ := WL_run n hw
  obtain ⟨p1, p2⟩ := pass_run (u := u) (T := t) (n := n) hw.2.1 hn1 hn2 (by omega)
  obtain ⟨r1, r2⟩ := run_1 n u
  obtain ⟨bd, ebd, bd1, bd2⟩ := hw.2.2.1.1
  have etb : tn (u 1 1) = bd := tn_of ebd (by omega)
  rw [etb] at pm1
  have ple : n * bd ≤ 99 * 16 := Nat.mul_le_mul hn2 bd2
  have pz : lp_runR n u (nI 0) = nI pm := by rw [pm2]; exact Int32.zero_add _
  rw [pz] at p2
  have q0 := would_0 hM hn1 hn2 pm3
  have q1 := would_1 hM hn1 hn2
  refine lv_istore (lv' := [(7, .int (nI n)), (3, .int y), (1, .ref (B2 0)), (0, .ref (B 0))]) hx hb dL_isStep_764 hl (by decide) rfl (fun ls hl => ?_)
  refine lv_aload_n hx hb dL_isStep_766 rfl (lv_at hl 3 rfl) ?_
  refine lv_iload hx hb dL_isStep_767 (lv_at hl 0 rfl) ?_
  refine lv_iconst (v := nI 0) hx hb dL_isStep_769 (by decide +kernel) ?_
  obtain ⟨o1, a1, m1⟩ := A_would (l := l) (D := D) (k := k) (B := B) (A := A0) h hO (nI n) (nI 0)
  refine k_o (As := [.int (nI n), .int (nI 0)]) (rest := []) X hW m1 yw_X4_would lk_L_73 ⟨Nat.le_of_ble_eq_true rfl, Nat.le_of_ble_eq_true rfl⟩ rfl hl.1 rfl (Nat.le_of_ble_eq_true rfl) ⟨Nat.zero_le _, Nat.zero_le _⟩ dL_isStep_770 (fun H locs hW => ?_)
  refine k_top (y := nI pm) q0 ?_
  refine lv_istore (lv' := [(8, .int (nI pm)), (7, .int (nI n)), (3, .int y), (1, .ref (B2 0)), (0, .ref (B 0))]) hx hb dL_isStep_773 hl (by decide) rfl (fun ls hl => ?_)
  refine lv_aload_n hx hb dL_isStep_775 rfl (lv_at hl 4 rfl) ?_
  refine lv_iload hx hb dL_isStep_776 (lv_at hl 1 rfl) ?_
  refine lv_iconst (v := nI 1) hx hb dL_isStep_778 (by decide +kernel) ?_
  obtain ⟨o2, a2, m2⟩ := A_would (l := l) (D := D) (k := k) (B := B) (A := A0) a1 hO (nI n) (nI 1)
  refine k_o (As := [.int (nI n), .int (nI 1)]) (rest := []) X hW m2 yw_X4_would lk_L_73 ⟨Nat.le_of_ble_eq_true rfl, Nat.le_of_ble_eq_true rfl⟩ rfl hl.1 rfl (Nat.le_of_ble_eq_true rfl) ⟨Nat.zero_le _, Nat.zero_le _⟩ dL_isStep_779 (fun H locs hW => ?_)
  refine lv_aload_n hx hb dL_isStep_782 rfl (lv_at hl 4 rfl) ?_
  refine lv_iconst (v := nI 5) hx hb dL_isStep_783 (by decide +kernel) ?_
  refine k_o (As := [.int (nI 5)]) (rest := [.int (m_X4_would_r u u (nI n) (nI 1))]) X hW (A_count a2 (j := 5) (by decide)) yw_X4_count lk_L_24 ⟨Nat.le_of_ble_eq_true rfl, Nat.le_of_ble_eq_true rfl⟩ rfl hl.1 rfl (Nat.le_of_ble_eq_true rfl) ⟨Nat.zero_le _, Nat.zero_le _⟩ dL_isStep_784 (fun H locs hW => ?_)
  refine k_top (y := ctr u (nI 5)) rfl ?_
  refine lv_iadd hx hb dL_isStep_787 ?_
  refine k_top (y := ctr (lp_run n u) (nI 5)) q1 ?_
  refine lv_istore (lv' := [(9, .int (ctr (lp_run n u) (nI 5))), (8, .int (nI pm)), (7, .int (nI n)), (3, .int y), (1, .ref (B2 0)), (0, .ref (B 0))]) hx hb dL_isStep_788 hl (by decide) rfl (fun ls hl => ?_)
  refine lv_aload_n hx hb dL_isStep_790 rfl (lv_at hl 5 rfl) ?_
  refine lv_iload hx hb dL_isStep_791 (lv_at hl 2 rfl) ?_
  refine k_o (As := [.int (nI n)]) (rest := []) X hW (A_pass a2 hO (nI n)) yw_X4_pass lk_L_70 ⟨Nat.le_of_ble_eq_true rfl, Nat.le_of_ble_eq_true rfl⟩ rfl hl.1 rfl (Nat.le_of_ble_eq_true rfl) ⟨Nat.zero_le _, Nat.zero_le _⟩ dL_isStep_793 (fun H locs hW => ?_)
  have a3 := AT_chg (r := m_X0_passTicks_r u (nI n)) (u' := m_X0_passTicks_u u (nI n)) a2
  obtain ⟨o3, e_o3⟩ : ∃ zq, oChg o2 (m_X0_passTicks_u u (nI n)) (m_X0_passTicks_r u (nI n)) = zq := ⟨_, rfl⟩
  rw [e_o3] at hW a3
  refine k_top (y := nI pm) p2 ?_
  rw [p1] at a3
  refine lv_iload hx hb dL_isStep_796 (lv_at hl 1 rfl) ?_
  refine lv_icmp_ne (tgt := 849) hx hb dL_isStep_798 (by decide) (fun c0 => absurd rfl c0) (fun _ => ?_)
  refine lv_aload_n hx hb dL_isStep_801 rfl (lv_at hl 4 rfl) ?_
  obtain ⟨q4, n4, hn4, a4, x4, m4⟩ := A_wipe (l := l) (D := D) (k := k) (B := B2) (A := A1) g
  refine k_p (As := []) (rest := []) X hW m4 yw_X4_wipe lk_L_35 ⟨Nat.le_of_ble_eq_true rfl, Nat.le_of_ble_eq_true rfl⟩ rfl hl.1 rfl (Nat.le_of_ble_eq_true rfl) ⟨Nat.zero_le _, Nat.zero_le _⟩ dL_isStep_802 (fun H locs hW => ?_)
  refine lv_if_lt (tgt := 849) hx hb dL_isStep_805 (by decide) (fun c0 => absurd c0 (nI_pos hn4)) (fun _ => ?_)
  refine lv_aload_n hx hb dL_isStep_808 rfl (lv_at hl 4 rfl) ?_
  refine lv_ldc2 (v := 116) hx hb X.hown (X.wd kl_L_76) dL_isStep_809 ?_
  have L5 : ([] : List Nat).length < 80 := by have d0 := dg_le n; simp only [List.length_append, List.length_cons, List.length_nil] <;> omega
  obtain ⟨q5, a5, x5, m5⟩ := A_put (l := l) (D := D) (k := k) (B := B2) (A := A1) a4 x4 L5 (x := 116) (c := 116) (by decide +kernel) (by decide) (by decide)
  refine k_p (As := [.long 116]) (rest := []) X hW m5 yw_X4_put lk_L_9 ⟨Nat.le_of_ble_eq_true rfl, Nat.le_of_ble_eq_true rfl⟩ rfl hl.1 rfl (Nat.le_of_ble_eq_true rfl) ⟨Nat.zero_le _, Nat.zero_le _⟩ dL_isStep_812 (fun H locs hW => ?_)
  refine lv_if_le (tgt := 849) hx hb dL_isStep_815 (by decide) (fun c0 => absurd c0 (pos1 L5)) (fun _ => ?_)
  refine lv_aload_n hx hb dL_isStep_818 rfl (lv_at hl 4 rfl) ?_
  refine lv_iload hx hb dL_isStep_819 (lv_at hl 2 rfl) ?_
  have L6 : ([] ++ [116] : List Nat).length + 2 ≤ 80 := by have d0 := dg_le n; simp only [List.length_append, List.length_cons, List.length_nil] <;> omega
  obtain ⟨q6, a6, x6, m6⟩ := A_number (l := l) (D := D) (k := k) (B := B2) (A0 := A1) (v := n) a5 x5 L6 (by omega)
  refine kSw (As := [.ref (B2 0), .int (nI n)]) (rest := []) X hW m6 yw_L_number lk_L_43 ⟨Nat.le_of_ble_eq_true rfl, Nat.le_of_ble_eq_true rfl⟩ (wr := OW k B A0 o3) (w' := OW k B A0 o3 ++ OW k B2 A1 q6) (List.Perm.refl _) (List.Perm.refl _) rfl hl.1 rfl (Nat.le_of_ble_eq_true rfl) ⟨Nat.zero_le _, Nat.zero_le _⟩ dL_isStep_821 (fun H locs hW => ?_)
  refine lv_if_eq (tgt := 849) hx hb dL_isStep_824 (by decide) (fun c0 => absurd c0 (by decide +kernel)) (fun _ => ?_)
  refine lv_aload_n hx hb dL_isStep_827 rfl (lv_at hl 4 rfl) ?_
  have L7 : ([] ++ [116] ++ dg n : List Nat).length ≤ 80 := by have d0 := dg_le n; simp only [List.length_append, List.length_cons, List.length_nil] <;> omega
  obtain ⟨zz, q7, ⟨z4, z5, z67⟩, a7, m7⟩ := A_carry (l := l) (D := D) (k := k) (B := B2) (A := A1) a6 hO x6 L7 (OE_t (n := n) (by simp) x6.2 (by omega))
  have tn1 : tn (nI 1) = 1 := tn_of rfl (by decide)
  obtain ⟨cu, cr⟩ := co_t (u := u) z4 z5
  obtain ⟨ci1, ci2⟩ := ci_ok (cu.trans p1) (cr.trans p2) (nI_pos (by omega))
  rw [tn1, ci1] at a7
  rw [tn1, ci2] at m7
  refine k_p (As := []) (rest := []) X hW m7 yw_X4_carryOut lk_L_49 ⟨Nat.le_of_ble_eq_true rfl, Nat.le_of_ble_eq_true rfl⟩ rfl hl.1 rfl (Nat.le_of_ble_eq_true rfl) ⟨Nat.zero_le _, Nat.zero_le _⟩ dL_isStep_828 (fun H locs hW => ?_)
  refine lv_iconst (v := nI 1) hx hb dL_isStep_831 (by decide +kernel) ?_
  refine lv_icmp_ne (tgt := 849) hx hb dL_isStep_832 (by decide) (fun c0 => absurd rfl c0) (fun _ => ?_)
  refine lv_aload_n hx hb dL_isStep_835 rfl (lv_at hl 5 rfl) ?_
  refine lv_iconst (v := nI 5) hx hb dL_isStep_836 (by decide +kernel) ?_
  refine k_o (As := [.int (nI 5)]) (rest := []) X hW (A_count a3 (j := 5) (by decide)) yw_X4_count lk_L_24 ⟨Nat.le_of_ble_eq_true rfl, Nat.le_of_ble_eq_true rfl⟩ rfl hl.1 rfl (Nat.le_of_ble_eq_true rfl) ⟨Nat.zero_le _, Nat.zero_le _⟩ dL_isStep_837 (fun H locs hW => ?_)
  refine k_top (y := ctr (lp_run n u) (nI 5)) rfl ?_
  refine lv_iload hx hb dL_isStep_840 (lv_at hl 0 rfl) ?_
  refine lv_icmp_ne (tgt := 849) hx hb dL_isStep_842 (by decide) (fun c0 => absurd rfl c0) (fun _ => ?_)
  refine lv_iconst (v := nI 1) hx hb dL_isStep_845 (by decide +kernel) ?_
  refine lv_goto (tgt := 850) hx hb dL_isStep_846 (by decide) ?_
  exact fin _ _ _ _ _ _ hW dL_isStep_850 rfl ⟨_, _, _, _, _, a3, a7, hG.to w1 (by omega) (by omega) (by omega) (by omega), rfl⟩
end
