section
variable {p : Program} {l : Launch} {e : Env} {s : State} {m : MethodId} {args : Array Value} {below : List Frame} {meth : Method} {c : Code} {Ts : List Cond} {D : va_G} {k : Nat → ClassId} {P : Nat → Prop} {Q : State → Prop} {B B2 : Nat → Nat} {A0 A1 : Nat → Nat → Nat} {H : Heap} {locs : List Loc} {ls : Array Slot} {o q : OB} {u : CS} {S : Nat → CS} {sv : Nat → Int32} {T C : Nat} {x y z : Int32} {jq : Nat}
set_option maxHeartbeats 1000000 in
set_option maxRecDepth 100000 in
theorem step_ploop (X : KX p s m args meth c cL_isStep 14 Ts RL D k P) {t n : Nat} {pm v9 v8 : Int32} (hw : WL u t) (hn9 : t + n ≤ 9999)
    (kk : ∀ (q : OB), AT q (lp_run n u) S sv → ∀ (H : Heap) (locs : List Loc) (ls : Array Slot), KW D P s (OW k B A0 o ++ OW k B2 A1 q) H locs → lv_has ls 14 [(11, .int (lp_runR n u (nI 0))), (10, .int pm), (9, .int v9), (8, .int v8), (7, .int (nI n)), (1, .ref (B2 0)), (0, .ref (B 0))] → W p l e (rmD 9) s m args below meth c H locs 0 0 Q (F0 m 703 ls [])) :
    ∀ (r i : Nat), i + r = n → ∀ (q : OB), AT q (lp_run i u) S sv → ∀ (H : Heap) (locs : List Loc) (ls : Array Slot), KW D P s (OW k B A0 o ++ OW k B2 A1 q) H locs → lv_has ls 14 [(12, .int (nI i)), (11, .int (lp_runR i u (nI 0))), (10, .int pm), (9, .int v9), (8, .int v8), (7, .int (nI n)), (1, .ref (B2 0)), (0, .ref (B 0))] → W p l e (rmD 9) s m args below meth c H locs 0 0 Q (F0 m 676 ls []) := by
  have hx := X.hx
  have hb := X.hb
  intro r
  induction r with
  | zero =>
    intro i hi q g H locs ls hW hl
    have hi : i = n := by omega
    subst hi
    refine lv_iload hx hb dL_isStep_676 (lv_at hl 0 rfl) ?_
    refine lv_iload hx hb dL_isStep_678 (lv_at hl 5 rfl) ?_
    refine lv_icmp_ge (tgt := 703) hx hb dL_isStep_680 (by decide) (fun _ => ?_) (fun c0 => absurd (Int32.le_refl _) c0)
    exact kk _ g _ _ _ hW (lv_sub hl [1, 2, 3, 4, 5, 6, 7] rfl)
  | succ r ih =>
    intro i hi q g H locs ls hW hl
    obtain ⟨w1, -⟩ := WL_run i hw
    obtain ⟨p1, p2⟩ := pass_run (u := lp_run i u) (T := t + i) (n := 1) w1.2.1 (by decide) (by decide) (by omega)
    obtain ⟨r1, r2⟩ := run_sn i u
    have hO := w1.okc
    refine lv_iload hx hb dL_isStep_676 (lv_at hl 0 rfl) ?_
    refine lv_iload hx hb dL_isStep_678 (lv_at hl 5 rfl) ?_
    refine lv_icmp_ge (tgt := 703) hx hb dL_isStep_680 (by decide) (fun c0 => absurd c0 (fun z => by rw [nI_leI (by omega) (by omega)] at z; omega)) (fun _ => ?_)
    refine lv_aload_n hx hb dL_isStep_683 rfl (lv_at hl 6 rfl) ?_
    refine lv_iconst (v := nI 1) hx hb dL_isStep_684 (by decide +kernel) ?_
    refine k_p (As := [.int (nI 1)]) (rest := []) X hW (A_pass g hO (nI 1)) yw_X4_pass lk_L_70 ⟨Nat.le_of_ble_eq_true rfl, Nat.le_of_ble_eq_true rfl⟩ rfl hl.1 rfl (Nat.le_of_ble_eq_true rfl) ⟨Nat.zero_le _, Nat.zero_le _⟩ dL_isStep_685 (fun H locs hW => ?_)
    have a1 := AT_chg (r := m_X0_passTicks_r (lp_run i u) (nI 1)) (u' := m_X0_passTicks_u (lp_run i u) (nI 1)) g
    obtain ⟨q1, e_q1⟩ : ∃ zq, oChg q (m_X0_passTicks_u (lp_run i u) (nI 1)) (m_X0_passTicks_r (lp_run i u) (nI 1)) = zq := ⟨_, rfl⟩
    rw [e_q1] at hW a1
    refine k_top (y := nI 0 + m_X0_tick_r (lp_run i u)) p2 ?_
    rw [p1, show lp_run 1 (lp_run i u) = m_X0_tick_u (lp_run i u) from rfl, ← r1] at a1
    refine lv_istore (lv' := [(13, .int (nI 0 + m_X0_tick_r (lp_run i u))), (12, .int (nI i)), (11, .int (lp_runR i u (nI 0))), (10, .int pm), (9, .int v9), (8, .int v8), (7, .int (nI n)), (1, .ref (B2 0)), (0, .ref (B 0))]) hx hb dL_isStep_688 hl (by decide) rfl (fun ls hl => ?_)
    refine lv_iload hx hb dL_isStep_690 (lv_at hl 2 rfl) ?_
    refine lv_iload hx hb dL_isStep_692 (lv_at hl 0 rfl) ?_
    refine lv_iadd hx hb dL_isStep_694 ?_
    refine k_top (y := lp_runR (i + 1) u (nI 0)) (by rw [r2, show nI 0 + m_X0_tick_r (lp_run i u) = m_X0_tick_r (lp_run i u) from Int32.zero_add _]) ?_
    refine lv_istore (lv' := [(11, .int (lp_runR (i + 1) u (nI 0))), (13, .int (nI 0 + m_X0_tick_r (lp_run i u))), (12, .int (nI i)), (10, .int pm), (9, .int v9), (8, .int v8), (7, .int (nI n)), (1, .ref (B2 0)), (0, .ref (B 0))]) hx hb dL_isStep_695 hl (by decide) rfl (fun ls hl => ?_)
    refine lv_iinc (v := nI (i + 1)) (lv' := [(12, .int (nI (i + 1))), (11, .int (lp_runR (i + 1) u (nI 0))), (13, .int (nI 0 + m_X0_tick_r (lp_run i u))), (10, .int pm), (9, .int v9), (8, .int v8), (7, .int (nI n)), (1, .ref (B2 0)), (0, .ref (B 0))]) hx hb dL_isStep_697 hl (k := 2) rfl (k_inc _) (by decide) rfl (fun ls hl => ?_)
    refine lv_goto (tgt := 676) hx hb dL_isStep_700 (by decide) ?_
    exact ih (i + 1) (by omega) _ a1 _ _ _ hW (lv_sub hl [0, 1, 3, 4, 5, 6, 7, 8] rfl)
set_option maxHeartbeats 1000000 in
set_option maxRecDepth 100000 in
theorem step_pass_tail (X : KX p s m args meth c cL_isStep 14 Ts RL D k P) (h : AT o u S sv) (g : AT q u S sv) (hG : GD u S sv T C) (hT9 : T + 99 ≤ 9999) (hC4 : C + 5 ≤ 400) (hj : jq < 3) (fin : ∀ (w : va_W) (H : Heap) (locs : List Loc) (pc : Nat) (ls : Array Slot) (v : Int32), KW D P s w H locs → decode cL_isStep pc = .ok (.ireturn, 1) → v = nI 1 → PW k B A0 B2 A1 (T + 99) (C + 5) w → W p l e (rmD 9) s m args below meth c H locs 0 0 Q (F0 m pc ls [.int v])) (hW : KW D P s (OW k B A0 o ++ OW k B2 A1 q) H locs) {n : Nat} (hn1 : 1 ≤ n) (hn2 : n ≤ 99) (hl : lv_has ls 14 [(7, .int (nI n)), (1, .ref (B2 0)), (0, .ref (B 0))]) : W p l e (rmD 9) s m args below meth c H locs 0 0 Q (F0 m 648 ls []) := by
  have hx := X.hx
  have hb := X.hb
  obtain ⟨⟨⟨t, ht, hw⟩, hcC⟩, hsl⟩ := id hG
  have hM := hw.1
  have hc := hM.2.1
  have hO := hw.okc
  have hQ := hw.2.2.2.2.1 jq hj
  obtain ⟨w1, pm, pm1, pm2, pm3⟩ := WL_run n hw
  obtain ⟨p1, p2⟩ := pass_run (u := u) (T := t) (n := n) hw.2.1 hn1 hn2 (by omega)
  obtain ⟨r1, r2⟩ := run_1 n u
  obtain ⟨bd, ebd, bd1, bd2⟩ := hw.2.2.1.1
  have etb : tn (u 1 1) = bd := tn_of ebd (by omega)
  rw [etb] at pm1
  have ple : n * bd ≤ 99 * 16 := Nat.mul_le_mul hn2 bd2
  have pz : lp_runR n u (nI 0) = nI pm := by rw [pm2]; exact Int32.zero_add _
  rw [pz] at p2
  refine lv_aload_n hx hb dL_isStep_648 rfl (lv_at hl 2 rfl) ?_
  refine lv_iconst (v := nI 0) hx hb dL_isStep_649 (by decide +kernel) ?_
  refine k_o (As := [.int (nI 0)]) (rest := []) X hW (A_count h (j := 0) (by decide)) yw_X4_count lk_L_24 ⟨Nat.le_of_ble_eq_true rfl, Nat.le_of_ble_eq_true rfl⟩ rfl hl.1 rfl (Nat.le_of_ble_eq_true rfl) ⟨Nat.zero_le _, Nat.zero_le _⟩ dL_isStep_650 (fun H locs hW => ?_)
  refine k_top (y := nI t) ((ctr_0 u).trans hw.2.1) ?_
  refine lv_istore (lv' := [(8, .int (nI t)), (7, .int (nI n)), (1, .ref (B2 0)), (0, .ref (B 0))]) hx hb dL_isStep_653 hl (by decide) rfl (fun ls hl => ?_)
  refine lv_aload_n hx hb dL_isStep_655 rfl (lv_at hl 3 rfl) ?_
  refine lv_iconst (v := nI 3) hx hb dL_isStep_656 (by decide +kernel) ?_
  refine k_o (As := [.int (nI 3)]) (rest := []) X hW (A_count h (j := 3) (by decide)) yw_X4_count lk_L_24 ⟨Nat.le_of_ble_eq_true rfl, Nat.le_of_ble_eq_true rfl⟩ rfl hl.1 rfl (Nat.le_of_ble_eq_true rfl) ⟨Nat.zero_le _, Nat.zero_le _⟩ dL_isStep_657 (fun H locs hW => ?_)
  refine k_top (y := tk3 u) ((ctr_3 u).trans (tot_tk u)) ?_
  refine lv_istore (lv' := [(9, .int (tk3 u)), (8, .int (nI t)), (7, .int (nI n)), (1, .ref (B2 0)), (0, .ref (B 0))]) hx hb dL_isStep_660 hl (by decide) rfl (fun ls hl => ?_)
  refine lv_aload_n hx hb dL_isStep_662 rfl (lv_at hl 4 rfl) ?_
  refine lv_iload hx hb dL_isStep_663 (lv_at hl 2 rfl) ?_
  refine k_o (As := [.int (nI n)]) (rest := []) X hW (A_pass h hO (nI n)) yw_X4_pass lk_L_70 ⟨Nat.le_of_ble_eq_true rfl, Nat.le_of_ble_eq_true rfl⟩ rfl hl.1 rfl (Nat.le_of_ble_eq_true rfl) ⟨Nat.zero_le _, Nat.zero_le _⟩ dL_isStep_665 (fun H locs hW => ?_)
  have a1 := AT_chg (r := m_X0_passTicks_r u (nI n)) (u' := m_X0_passTicks_u u (nI n)) h
  obtain ⟨o1, e_o1⟩ : ∃ zq, oChg o (m_X0_passTicks_u u (nI n)) (m_X0_passTicks_r u (nI n)) = zq := ⟨_, rfl⟩
  rw [e_o1] at hW a1
  refine k_top (y := nI pm) p2 ?_
  rw [p1] at a1
  refine lv_istore (lv' := [(10, .int (nI pm)), (9, .int (tk3 u)), (8, .int (nI t)), (7, .int (nI n)), (1, .ref (B2 0)), (0, .ref (B 0))]) hx hb dL_isStep_668 hl (by decide) rfl (fun ls hl => ?_)
  refine lv_iconst (v := nI 0) hx hb dL_isStep_670 (by decide +kernel) ?_
  refine lv_istore (lv' := [(11, .int (nI 0)), (10, .int (nI pm)), (9, .int (tk3 u)), (8, .int (nI t)), (7, .int (nI n)), (1, .ref (B2 0)), (0, .ref (B 0))]) hx hb dL_isStep_671 hl (by decide) rfl (fun ls hl => ?_)
  refine lv_iconst (v := nI 0) hx hb dL_isStep_673 (by decide +kernel) ?_
  refine lv_istore (lv' := [(12, .int (nI 0)), (11, .int (nI 0)), (10, .int (nI pm)), (9, .int (tk3 u)), (8, .int (nI t)), (7, .int (nI n)), (1, .ref (B2 0)), (0, .ref (B 0))]) hx hb dL_isStep_674 hl (by decide) rfl (fun ls hl => ?_)
  refine step_ploop X (o := o1) hw (by omega) ?_ n 0 (Nat.zero_add n) _ g _ _ _ hW (lv_sub hl [0, 1, 2, 3, 4, 5, 6, 7] rfl)
  intro q g H locs ls hW hl
  rw [pz] at hl
  refine lv_iload hx hb dL_isStep_703 (lv_at hl 1 rfl) ?_
  refine lv_iload hx hb dL_isStep_705 (lv_at hl 0 rfl) ?_
  refine lv_icmp_ne (tgt := 754) hx hb dL_isStep_707 (by decide) (fun c0 => absurd rfl c0) (fun _ => ?_)
  refine lv_aload_n hx hb dL_isStep_710 rfl (lv_at hl 6 rfl) ?_
  refine lv_iconst (v := nI 0) hx hb dL_isStep_711 (by decide +kernel) ?_
  refine k_o (As := [.int (nI 0)]) (rest := []) X hW (A_count a1 (j := 0) (by decide)) yw_X4_count lk_L_24 ⟨Nat.le_of_ble_eq_true rfl, Nat.le_of_ble_eq_true rfl⟩ rfl hl.1 rfl (Nat.le_of_ble_eq_true rfl) ⟨Nat.zero_le _, Nat.zero_le _⟩ dL_isStep_712 (fun H locs hW => ?_)
  refine k_top (y := nI (t + n)) ((ctr_0 _).trans w1.2.1) ?_
  refine lv_iload hx hb dL_isStep_715 (lv_at hl 3 rfl) ?_
  refine lv_iload hx hb dL_isStep_717 (lv_at hl 4 rfl) ?_
  refine lv_iadd hx hb dL_isStep_719 ?_
  refine k_top (y := nI (t + n)) (nI_add _ _) ?_
  refine lv_icmp_ne (tgt := 754) hx hb dL_isStep_720 (by decide) (fun c0 => absurd rfl c0) (fun _ => ?_)
  refine lv_aload_n hx hb dL_isStep_723 rfl (lv_at hl 6 rfl) ?_
  refine lv_iconst (v := nI 3) hx hb dL_isStep_724 (by decide +kernel) ?_
  refine k_o (As := [.int (nI 3)]) (rest := []) X hW (A_count a1 (j := 3) (by decide)) yw_X4_count lk_L_24 ⟨Nat.le_of_ble_eq_true rfl, Nat.le_of_ble_eq_true rfl⟩ rfl hl.1 rfl (Nat.le_of_ble_eq_true rfl) ⟨Nat.zero_le _, Nat.zero_le _⟩ dL_isStep_725 (fun H locs hW => ?_)
  refine k_top (y := tk3 u + nI pm) ((ctr_3 _).trans ((tot_tk _).trans pm3)) ?_
  refine lv_iload hx hb dL_isStep_728 (lv_at hl 2 rfl) ?_
  refine lv_iload hx hb dL_isStep_730 (lv_at hl 1 rfl) ?_
  refine lv_iadd hx hb dL_isStep_732 ?_
  refine lv_icmp_ne (tgt := 754) hx hb dL_isStep_733 (by decide) (fun c0 => absurd rfl c0) (fun _ => ?_)
  refine lv_iload hx hb dL_isStep_736 (lv_at hl 1 rfl) ?_
  refine lv_iload hx hb dL_isStep_738 (lv_at hl 4 rfl) ?_
  refine lv_aload_n hx hb dL_isStep_740 rfl (lv_at hl 6 rfl) ?_
  refine lv_bipush (v := nI 8) hx hb dL_isStep_741 (by decide +kernel) ?_
  refine k_o (As := [.int (nI 8)]) (rest := [.int (nI n), .int (nI pm)]) X hW (A_count a1 (j := 8) (by decide)) yw_X4_count lk_L_24 ⟨Nat.le_of_ble_eq_true rfl, Nat.le_of_ble_eq_true rfl⟩ rfl hl.1 rfl (Nat.le_of_ble_eq_true rfl) ⟨Nat.zero_le _, Nat.zero_le _⟩ dL_isStep_743 (fun H locs hW => ?_)
  refine k_top (y := nI bd) ((ctr_s (j := 1) (by decide)).trans (by rw [r1, ebd])) ?_
  refine lv_imul hx hb dL_isStep_746 ?_
  refine k_top (y := nI (n * bd)) (pk_mul _ _) ?_
  refine lv_icmp_gt (tgt := 754) hx hb dL_isStep_747 (by decide) (fun c0 => absurd c0 (fun z => by rw [nI_ltI (by omega) (by omega)] at z; omega)) (fun _ => ?_)
  refine lv_iconst (v := nI 1) hx hb dL_isStep_750 (by decide +kernel) ?_
  refine lv_goto (tgt := 755) hx hb dL_isStep_751 (by decide) ?_
  exact fin _ _ _ _ _ _ hW dL_isStep_755 rfl ⟨_, _, _, _, _, a1, g, hG.to w1 (by omega) (by omega) (by omega) (by omega), rfl⟩
set_option maxHeartbeats 1000000 in
set_option maxRecDepth 100000 in
theorem step_pass (X : KX p s m args meth c cL_isStep 14 Ts RL D k P) (h : AT o u S sv) (g : AT q u S sv) (hG : GD u S sv T C) (hT9 : T + 99 ≤ 9999) (hC4 : C + 5 ≤ 400) (hj : jq < 3) (fin : ∀ (w : va_W) (H : Heap) (locs : List Loc) (pc : Nat) (ls : Array Slot) (v : Int32), KW D P s w H locs → decode cL_isStep pc = .ok (.ireturn, 1) → v = nI 1 → PW k B A0 B2 A1 (T + 99) (C + 5) w → W p l e (rmD 9) s m args below meth c H locs 0 0 Q (F0 m pc ls [.int v])) (hW : KW D P s (OW k B A0 o ++ OW k B2 A1 q) H locs) (hl : lv_has ls 14 [(4, .int z), (3, .int y), (1, .ref (B2 0)), (0, .ref (B 0))]) : W p l e (rmD 9) s m args below meth c H locs 0 0 Q (F0 m 623 ls []) := by
  have hx := X.hx
  have hb := X.hb
  refine lv_iconst (v := nI 1) hx hb dL_isStep_623 (by decide +kernel) ?_
  refine lv_iload_n hx hb dL_isStep_624 rfl (lv_at hl 1 rfl) ?_
  refine lv_iload hx hb dL_isStep_625 (lv_at hl 0 rfl) ?_
  refine lv_iconst (v := nI 3) hx hb dL_isStep_627 (by decide +kernel) ?_
  refine lv_ishr hx hb dL_isStep_628 ?_
  refine lv_iconst (v := nI 4) hx hb dL_isStep_629 (by decide +kernel) ?_
  refine kSi (As := [.int (z >>> ((nI 3) &&& 31)), .int (nI 4)]) (rest := [.int y, .int (nI 1)]) X hW (c_L_up l D k (z >>> ((nI 3) &&& 31)) 4 (by decide) (by decide)) yw_L_up lk_L_19 ⟨Nat.le_of_ble_eq_true rfl, Nat.le_of_ble_eq_true rfl⟩ rfl hl.1 rfl (Nat.le_of_ble_eq_true rfl) ⟨Nat.zero_le _, Nat.zero_le _⟩ dL_isStep_630 (fun H locs hW => ?_)
  obtain ⟨ba, e_ba⟩ : ∃ zq, upn (z >>> ((nI 3) &&& 31)) 4 = zq := ⟨_, rfl⟩
  have h_ba : ba < 4 := by rw [← e_ba]; exact upn_lt _ (by decide)
  refine k_top (y := nI ba) (congrArg nI e_ba) ?_
  refine lv_if_ne (tgt := 641) hx hb dL_isStep_633 (by decide) (fun ca => ?_) (fun ca => ?_)
  · refine lv_iconst (v := nI 4) hx hb dL_isStep_641 (by decide +kernel) ?_
    refine kSi (As := [.int y, .int (nI 4)]) (rest := [.int (nI 1)]) X hW (c_L_up l D k y 4 (by decide) (by decide)) yw_L_up lk_L_19 ⟨Nat.le_of_ble_eq_true rfl, Nat.le_of_ble_eq_true rfl⟩ rfl hl.1 rfl (Nat.le_of_ble_eq_true rfl) ⟨Nat.zero_le _, Nat.zero_le _⟩ dL_isStep_642 (fun H locs hW => ?_)
    obtain ⟨nt, e_nt⟩ : ∃ zq, upn y 4 = zq := ⟨_, rfl⟩
    have h_nt : nt < 4 := by rw [← e_nt]; exact upn_lt _ (by decide)
    refine k_top (y := nI nt) (congrArg nI e_nt) ?_
    refine lv_iadd hx hb dL_isStep_645 ?_
    refine k_top (y := nI (1 + nt)) (nI_add _ _) ?_
    refine lv_istore (lv' := [(7, .int (nI (1 + nt))), (4, .int z), (3, .int y), (1, .ref (B2 0)), (0, .ref (B 0))]) hx hb dL_isStep_646 hl (by decide) rfl (fun ls hl => ?_)
    exact step_pass_tail X h g hG hT9 hC4 hj fin hW (n := 1 + nt) (by omega) (by omega) (lv_sub hl [0, 3, 4] rfl)
  · refine lv_bipush (v := nI 99) hx hb dL_isStep_636 (by decide +kernel) ?_
    refine lv_goto (tgt := 642) hx hb dL_isStep_638 (by decide) ?_
    refine kSi (As := [.int y, .int (nI 99)]) (rest := [.int (nI 1)]) X hW (c_L_up l D k y 99 (by decide) (by decide)) yw_L_up lk_L_19 ⟨Nat.le_of_ble_eq_true rfl, Nat.le_of_ble_eq_true rfl⟩ rfl hl.1 rfl (Nat.le_of_ble_eq_true rfl) ⟨Nat.zero_le _, Nat.zero_le _⟩ dL_isStep_642 (fun H locs hW => ?_)
    obtain ⟨nt, e_nt⟩ : ∃ zq, upn y 99 = zq := ⟨_, rfl⟩
    have h_nt : nt < 99 := by rw [← e_nt]; exact upn_lt _ (by decide)
    refine k_top (y := nI nt) (congrArg nI e_nt) ?_
    refine lv_iadd hx hb dL_isStep_645 ?_
    refine k_top (y := nI (1 + nt)) (nI_add _ _) ?_
    refine lv_istore (lv' := [(7, .int (nI (1 + nt))), (4, .int z), (3, .int y), (1, .ref (B2 0)), (0, .ref (B 0))]) hx hb dL_isStep_646 hl (by decide) rfl (fun ls hl => ?_)
    exact step_pass_tail X h g hG hT9 hC4 hj fin hW (n := 1 + nt) (by omega) (by omega) (lv_sub hl [0, 3, 4] rfl)
end
