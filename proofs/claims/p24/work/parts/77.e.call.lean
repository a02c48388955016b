section
variable {p : Program} {l : Launch} {e : Env} {s : State} {m : MethodId} {args : Array Value} {below : List Frame} {meth : Method} {c : Code} {Ts : List Cond} {D : va_G} {k : Nat → ClassId} {P : Nat → Prop} {Q : State → Prop} {B B2 : Nat → Nat} {A0 A1 : Nat → Nat → Nat} {H : Heap} {locs : List Loc} {ls : Array Slot} {o q : OB} {u : CS} {S : Nat → CS} {sv : Nat → Int32} {T C : Nat} {x y z : Int32} {jq : Nat}
set_option maxHeartbeats 1000000 in
set_option maxRecDepth 100000 in
theorem step_call (X : KX p s m args meth c cL_isStep 14 Ts RL D k P) (h : AT o u S sv) (g : AT q u S sv) (hG : GD u S sv T C) (hT9 : T + 99 ≤ 9999) (hC4 : C + 5 ≤ 400) (hj : jq < 3) (fin : ∀ (w : va_W) (H : Heap) (locs : List Loc) (pc : Nat) (ls : Array Slot) (v : Int32), KW D P s w H locs → decode cL_isStep pc = .ok (.ireturn, 1) → v = nI 1 → PW k B A0 B2 A1 (T + 99) (C + 5) w → W p l e (rmD 9) s m args below meth c H locs 0 0 Q (F0 m pc ls [.int v])) (hW : KW D P s (OW k B A0 o ++ OW k B2 A1 q) H locs) (hl : lv_has ls 14 [(5, .int (nI jq)), (1, .ref (B2 0)), (0, .ref (B 0))]) : W p l e (rmD 9) s m args below meth c H locs 0 0 Q (F0 m 487 ls []) := by
  have hx := X.hx
  have hb := X.hb
  obtain ⟨⟨⟨t, ht, hw⟩, hcC⟩, hsl⟩ := id hG
  have hM := hw.1
  have hc := hM.2.1
  have hO := hw.okc
  have hQ := hw.2.2.2.2.1 jq hj
  obtain ⟨row, hR, hn, h3⟩ := hw.2.2.2.2.2
  have hlen := row_le hn h3
  have hrl := rowLength_eq hR hn h3
  obtain ⟨k1, k2⟩ := call_eq (u := u) hj
  have kW := WL_call hj hw
  have lR := nS_le u jq (nI 0) (cn u)
  obtain ⟨u', eu⟩ : ∃ zq, m_X0_callByHand_u u (nI jq) = zq := ⟨_, rfl⟩
  rw [eu] at k2 kW
  refine lv_aload_n hx hb dL_isStep_487 rfl (lv_at hl 2 rfl) ?_
  refine lv_iload hx hb dL_isStep_488 (lv_at hl 0 rfl) ?_
  refine lv_iconst (v := nI 4) hx hb dL_isStep_490 (by decide +kernel) ?_
  by_cases cp : u (6 + jq) 3 = (-1)
  · rw [if_pos cp] at k1 k2
    refine k_o (As := [.int (nI jq), .int (nI 4)]) (rest := []) X hW (A_of h (nI jq) (nI 4)) yw_X4_of lk_L_15 ⟨Nat.le_of_ble_eq_true rfl, Nat.le_of_ble_eq_true rfl⟩ rfl hl.1 rfl (Nat.le_of_ble_eq_true rfl) ⟨Nat.zero_le _, Nat.zero_le _⟩ dL_isStep_491 (fun H locs hW => ?_)
    refine k_top (y := nI 0) ((of_r hj).trans (by rw [fact_4, if_pos cp])) ?_
    refine lv_if_ne (tgt := 511) hx hb dL_isStep_494 (by decide) (fun c0 => absurd rfl c0) (fun _ => ?_)
    refine lv_aload_n hx hb dL_isStep_497 rfl (lv_at hl 2 rfl) ?_
    refine lv_iload hx hb dL_isStep_498 (lv_at hl 0 rfl) ?_
    refine lv_iconst (v := nI 3) hx hb dL_isStep_500 (by decide +kernel) ?_
    refine k_o (As := [.int (nI jq), .int (nI 3)]) (rest := []) X hW (A_of h (nI jq) (nI 3)) yw_X4_of lk_L_15 ⟨Nat.le_of_ble_eq_true rfl, Nat.le_of_ble_eq_true rfl⟩ rfl hl.1 rfl (Nat.le_of_ble_eq_true rfl) ⟨Nat.zero_le _, Nat.zero_le _⟩ dL_isStep_501 (fun H locs hW => ?_)
    refine k_top (y := nI (nS u jq (nI 0) (cn u))) ((of_r hj).trans hQ.2.1) ?_
    by_cases cz : nS u jq (nI 0) (cn u) = 0
    · have e5 : u (6 + jq) 5 = 0 := by rw [hQ.2.1, cz]; rfl
      have kr : m_X0_callByHand_r u (nI jq) = (-5) := by rw [k1, if_pos e5]
      rw [if_pos e5] at k2
      have k3 := k2.symm
      subst k3
      have ec : cn u = cn u := rfl
      have f7 : u (6 + jq) 7 = u (6 + jq) 7 := rfl
      refine lv_if_le (tgt := 511) hx hb dL_isStep_504 (by decide) (fun _ => ?_) (fun c0 => absurd (by rw [cz]; decide) c0)
      refine lv_iconst (v := nI 0) hx hb dL_isStep_511 (by decide +kernel) ?_
      refine lv_istore (lv' := [(7, .int (nI 0)), (5, .int (nI jq)), (1, .ref (B2 0)), (0, .ref (B 0))]) hx hb dL_isStep_512 hl (by decide) rfl (fun ls hl => ?_)
      refine lv_aload_n hx hb dL_isStep_514 rfl (lv_at hl 3 rfl) ?_
      refine lv_iload hx hb dL_isStep_515 (lv_at hl 1 rfl) ?_
      refine lv_bipush (v := nI 6) hx hb dL_isStep_517 (by decide +kernel) ?_
      refine k_o (As := [.int (nI jq), .int (nI 6)]) (rest := []) X hW (A_of h (nI jq) (nI 6)) yw_X4_of lk_L_15 ⟨Nat.le_of_ble_eq_true rfl, Nat.le_of_ble_eq_true rfl⟩ rfl hl.1 rfl (Nat.le_of_ble_eq_true rfl) ⟨Nat.zero_le _, Nat.zero_le _⟩ dL_isStep_519 (fun H locs hW => ?_)
      refine k_top (y := u (6 + jq) 7) ((of_r hj).trans (fact_6 _)) ?_
      refine lv_istore (lv' := [(8, .int (u (6 + jq) 7)), (7, .int (nI 0)), (5, .int (nI jq)), (1, .ref (B2 0)), (0, .ref (B 0))]) hx hb dL_isStep_522 hl (by decide) rfl (fun ls hl => ?_)
      refine lv_aload_n hx hb dL_isStep_524 rfl (lv_at hl 4 rfl) ?_
      refine lv_iconst (v := nI 4) hx hb dL_isStep_525 (by decide +kernel) ?_
      refine kSw (As := [.ref (B 0), .int (nI 4)]) (rest := []) X hW (A_sum h (nI 4)) yw_L_sum lk_L_57 ⟨Nat.le_of_ble_eq_true rfl, Nat.le_of_ble_eq_true rfl⟩ (wr := OW k B2 A1 q) (w' := OW k B A0 o ++ OW k B2 A1 q) List.perm_append_comm List.perm_append_comm rfl hl.1 rfl (Nat.le_of_ble_eq_true rfl) ⟨Nat.zero_le _, Nat.zero_le _⟩ dL_isStep_526 (fun H locs hW => ?_)
      refine k_top (y := nI row.length) (sum4 hR hn h3).symm ?_
      refine lv_istore (lv' := [(9, .int (nI row.length)), (8, .int (u (6 + jq) 7)), (7, .int (nI 0)), (5, .int (nI jq)), (1, .ref (B2 0)), (0, .ref (B 0))]) hx hb dL_isStep_529 hl (by decide) rfl (fun ls hl => ?_)
      refine lv_aload_n hx hb dL_isStep_531 rfl (lv_at hl 5 rfl) ?_
      refine lv_iload hx hb dL_isStep_532 (lv_at hl 3 rfl) ?_
      refine k_o (As := [.int (nI jq)]) (rest := []) X hW (A_call h hO (nI jq)) yw_X4_call lk_L_61 ⟨Nat.le_of_ble_eq_true rfl, Nat.le_of_ble_eq_true rfl⟩ rfl hl.1 rfl (Nat.le_of_ble_eq_true rfl) ⟨Nat.zero_le _, Nat.zero_le _⟩ dL_isStep_534 (fun H locs hW => ?_)
      have a1 := AT_chg (r := m_X0_callByHand_r u (nI jq)) (u' := m_X0_callByHand_u u (nI jq)) h
      obtain ⟨o1, e_o1⟩ : ∃ zq, oChg o (m_X0_callByHand_u u (nI jq)) (m_X0_callByHand_r u (nI jq)) = zq := ⟨_, rfl⟩
      rw [e_o1] at hW a1
      refine k_top (y := (-5)) kr ?_
      rw [eu] at a1
      refine lv_istore (lv' := [(10, .int (-5)), (9, .int (nI row.length)), (8, .int (u (6 + jq) 7)), (7, .int (nI 0)), (5, .int (nI jq)), (1, .ref (B2 0)), (0, .ref (B 0))]) hx hb dL_isStep_537 hl (by decide) rfl (fun ls hl => ?_)
      refine lv_iload hx hb dL_isStep_539 (lv_at hl 0 rfl) ?_
      refine lv_aload_n hx hb dL_isStep_541 rfl (lv_at hl 5 rfl) ?_
      refine lv_iload hx hb dL_isStep_542 (lv_at hl 4 rfl) ?_
      refine k_p (As := [.int (nI jq)]) (rest := [.int (-5)]) X hW (A_call g hO (nI jq)) yw_X4_call lk_L_61 ⟨Nat.le_of_ble_eq_true rfl, Nat.le_of_ble_eq_true rfl⟩ rfl hl.1 rfl (Nat.le_of_ble_eq_true rfl) ⟨Nat.zero_le _, Nat.zero_le _⟩ dL_isStep_544 (fun H locs hW => ?_)
      have a2 := AT_chg (r := m_X0_callByHand_r u (nI jq)) (u' := m_X0_callByHand_u u (nI jq)) g
      obtain ⟨q2, e_q2⟩ : ∃ zq, oChg q (m_X0_callByHand_u u (nI jq)) (m_X0_callByHand_r u (nI jq)) = zq := ⟨_, rfl⟩
      rw [e_q2] at hW a2
      refine k_top (y := (-5)) kr ?_
      rw [eu] at a2
      refine lv_icmp_ne (tgt := 621) hx hb dL_isStep_547 (by decide) (fun c0 => absurd rfl c0) (fun _ => ?_)
      refine lv_iload hx hb dL_isStep_550 (lv_at hl 0 rfl) ?_
      refine lv_iload hx hb dL_isStep_552 (lv_at hl 3 rfl) ?_
      refine lv_if_eq (tgt := 562) hx hb dL_isStep_554 (by decide) (fun _ => ?_) (fun c0 => absurd rfl c0)
      refine lv_bipush (v := (-5)) hx hb dL_isStep_562 (by decide +kernel) ?_
      refine lv_icmp_ne (tgt := 621) hx hb dL_isStep_564 (by decide) (fun c0 => absurd rfl c0) (fun _ => ?_)
      refine lv_aload_n hx hb dL_isStep_567 rfl (lv_at hl 6 rfl) ?_
      refine lv_iload hx hb dL_isStep_568 (lv_at hl 4 rfl) ?_
      refine lv_bipush (v := nI 6) hx hb dL_isStep_570 (by decide +kernel) ?_
      refine k_o (As := [.int (nI jq), .int (nI 6)]) (rest := []) X hW (A_of a1 (nI jq) (nI 6)) yw_X4_of lk_L_15 ⟨Nat.le_of_ble_eq_true rfl, Nat.le_of_ble_eq_true rfl⟩ rfl hl.1 rfl (Nat.le_of_ble_eq_true rfl) ⟨Nat.zero_le _, Nat.zero_le _⟩ dL_isStep_572 (fun H locs hW => ?_)
      refine k_top (y := u (6 + jq) 7) ((of_r hj).trans ((fact_6 _).trans f7)) ?_
      refine lv_iload hx hb dL_isStep_575 (lv_at hl 2 rfl) ?_
      refine lv_iload hx hb dL_isStep_577 (lv_at hl 3 rfl) ?_
      refine lv_if_eq (tgt := 586) hx hb dL_isStep_579 (by decide) (fun _ => ?_) (fun c0 => absurd rfl c0)
      refine lv_iconst (v := nI 0) hx hb dL_isStep_586 (by decide +kernel) ?_
      refine lv_iadd hx hb dL_isStep_587 ?_
      refine k_top (y := u (6 + jq) 7) (Int32.add_zero _) ?_
      refine lv_icmp_ne (tgt := 621) hx hb dL_isStep_588 (by decide) (fun c0 => absurd rfl c0) (fun _ => ?_)
      refine lv_iload hx hb dL_isStep_591 (lv_at hl 3 rfl) ?_
      refine lv_if_eq (tgt := 617) hx hb dL_isStep_593 (by decide) (fun _ => ?_) (fun c0 => absurd rfl c0)
      refine lv_iconst (v := nI 1) hx hb dL_isStep_617 (by decide +kernel) ?_
      refine lv_goto (tgt := 622) hx hb dL_isStep_618 (by decide) ?_
      exact fin _ _ _ _ _ _ hW dL_isStep_622 rfl ⟨_, _, _, _, _, a1, a2, hG.to kW (by omega) (by omega) (by omega) (by omega), rfl⟩
    · have e5 : ¬ u (6 + jq) 5 = 0 := fun z => cz (by rw [hQ.2.1] at z; exact (nI_eq (b := 0) (by omega) (by decide)).mp z)
      have kr : m_X0_callByHand_r u (nI jq) = nI row.length := by rw [k1, if_neg e5, hrl]
      rw [if_neg e5] at k2
      have eq' : u' (6 + jq) = upd (upd (upd (u (6 + jq)) 3 (m_X0_rowLength_r u)) 7 ((u (6 + jq) 7) + (nI 1))) 12 (nI 0) := by rw [k2]; exact st2_s
      have hnq := (SR_out hR hj hlen).mp cp
      have ec : cn u' = cn u := cn_of (by rw [k2]; exact st2_n (by omega))
      have f7 : u' (6 + jq) 7 = u (6 + jq) 7 + nI 1 := by rw [eq']; rfl
      have fp : ¬ u' (6 + jq) 3 = (-1) := by rw [eq', pk_un (by decide), pk_un (by decide), pk_us, hrl]; exact k_neg (by omega) (by decide)
      have hR2 : SR u' (row ++ [jq]) := by rw [k2]; exact SR_app hj hR hnq hrl
      have hn2 : (row ++ [jq]).Nodup := List.nodup_append.mpr ⟨hn, by simp, fun a ha b hb eab => by
          rw [List.mem_singleton] at hb
          rw [hb] at eab
          exact hnq (eab ▸ ha)⟩
      have h32 : ∀ x ∈ row ++ [jq], x < 3 := fun x hx => by
          rcases List.mem_append.mp hx with mm | mm
          · exact h3 x mm
          · rw [List.mem_singleton] at mm; rw [mm]; exact hj
      refine lv_if_le (tgt := 511) hx hb dL_isStep_504 (by decide) (fun c0 => absurd c0 (Int32.not_le.mpr ((nI_ltI (a := 0) (by decide) (by omega)).mpr (by omega)))) (fun _ => ?_)
      refine lv_iconst (v := nI 1) hx hb dL_isStep_507 (by decide +kernel) ?_
      refine lv_goto (tgt := 512) hx hb dL_isStep_508 (by decide) ?_
      refine lv_istore (lv' := [(7, .int (nI 1)), (5, .int (nI jq)), (1, .ref (B2 0)), (0, .ref (B 0))]) hx hb dL_isStep_512 hl (by decide) rfl (fun ls hl => ?_)
      refine lv_aload_n hx hb dL_isStep_514 rfl (lv_at hl 3 rfl) ?_
      refine lv_iload hx hb dL_isStep_515 (lv_at hl 1 rfl) ?_
      refine lv_bipush (v := nI 6) hx hb dL_isStep_517 (by decide +kernel) ?_
      refine k_o (As := [.int (nI jq), .int (nI 6)]) (rest := []) X hW (A_of h (nI jq) (nI 6)) yw_X4_of lk_L_15 ⟨Nat.le_of_ble_eq_true rfl, Nat.le_of_ble_eq_true rfl⟩ rfl hl.1 rfl (Nat.le_of_ble_eq_true rfl) ⟨Nat.zero_le _, Nat.zero_le _⟩ dL_isStep_519 (fun H locs hW => ?_)
      refine k_top (y := u (6 + jq) 7) ((of_r hj).trans (fact_6 _)) ?_
      refine lv_istore (lv' := [(8, .int (u (6 + jq) 7)), (7, .int (nI 1)), (5, .int (nI jq)), (1, .ref (B2 0)), (0, .ref (B 0))]) hx hb dL_isStep_522 hl (by decide) rfl (fun ls hl => ?_)
      refine lv_aload_n hx hb dL_isStep_524 rfl (lv_at hl 4 rfl) ?_
      refine lv_iconst (v := nI 4) hx hb dL_isStep_525 (by decide +kernel) ?_
      refine kSw (As := [.ref (B 0), .int (nI 4)]) (rest := []) X hW (A_sum h (nI 4)) yw_L_sum lk_L_57 ⟨Nat.le_of_ble_eq_true rfl, Nat.le_of_ble_eq_true rfl⟩ (wr := OW k B2 A1 q) (w' := OW k B A0 o ++ OW k B2 A1 q) List.perm_append_comm List.perm_append_comm rfl hl.1 rfl (Nat.le_of_ble_eq_true rfl) ⟨Nat.zero_le _, Nat.zero_le _⟩ dL_isStep_526 (fun H locs hW => ?_)
      refine k_top (y := nI row.length) (sum4 hR hn h3).symm ?_
      refine lv_istore (lv' := [(9, .int (nI row.length)), (8, .int (u (6 + jq) 7)), (7, .int (nI 1)), (5, .int (nI jq)), (1, .ref (B2 0)), (0, .ref (B 0))]) hx hb dL_isStep_529 hl (by decide) rfl (fun ls hl => ?_)
      refine lv_aload_n hx hb dL_isStep_531 rfl (lv_at hl 5 rfl) ?_
      refine lv_iload hx hb dL_isStep_532 (lv_at hl 3 rfl) ?_
      refine k_o (As := [.int (nI jq)]) (rest := []) X hW (A_call h hO (nI jq)) yw_X4_call lk_L_61 ⟨Nat.le_of_ble_eq_true rfl, Nat.le_of_ble_eq_true rfl⟩ rfl hl.1 rfl (Nat.le_of_ble_eq_true rfl) ⟨Nat.zero_le _, Nat.zero_le _⟩ dL_isStep_534 (fun H locs hW => ?_)
      have a1 := AT_chg (r := m_X0_callByHand_r u (nI jq)) (u' := m_X0_callByHand_u u (nI jq)) h
      obtain ⟨o1, e_o1⟩ : ∃ zq, oChg o (m_X0_callByHand_u u (nI jq)) (m_X0_callByHand_r u (nI jq)) = zq := ⟨_, rfl⟩
      rw [e_o1] at hW a1
      refine k_top (y := nI row.length) kr ?_
      rw [eu] at a1
      refine lv_istore (lv' := [(10, .int (nI row.length)), (9, .int (nI row.length)), (8, .int (u (6 + jq) 7)), (7, .int (nI 1)), (5, .int (nI jq)), (1, .ref (B2 0)), (0, .ref (B 0))]) hx hb dL_isStep_537 hl (by decide) rfl (fun ls hl => ?_)
      refine lv_iload hx hb dL_isStep_539 (lv_at hl 0 rfl) ?_
      refine lv_aload_n hx hb dL_isStep_541 rfl (lv_at hl 5 rfl) ?_
      refine lv_iload hx hb dL_isStep_542 (lv_at hl 4 rfl) ?_
      refine k_p (As := [.int (nI jq)]) (rest := [.int (nI row.length)]) X hW (A_call g hO (nI jq)) yw_X4_call lk_L_61 ⟨Nat.le_of_ble_eq_true rfl, Nat.le_of_ble_eq_true rfl⟩ rfl hl.1 rfl (Nat.le_of_ble_eq_true rfl) ⟨Nat.zero_le _, Nat.zero_le _⟩ dL_isStep_544 (fun H locs hW => ?_)
      have a2 := AT_chg (r := m_X0_callByHand_r u (nI jq)) (u' := m_X0_callByHand_u u (nI jq)) g
      obtain ⟨q2, e_q2⟩ : ∃ zq, oChg q (m_X0_callByHand_u u (nI jq)) (m_X0_callByHand_r u (nI jq)) = zq := ⟨_, rfl⟩
      rw [e_q2] at hW a2
      refine k_top (y := nI row.length) kr ?_
      rw [eu] at a2
      refine lv_icmp_ne (tgt := 621) hx hb dL_isStep_547 (by decide) (fun c0 => absurd rfl c0) (fun _ => ?_)
      refine lv_iload hx hb dL_isStep_550 (lv_at hl 0 rfl) ?_
      refine lv_iload hx hb dL_isStep_552 (lv_at hl 3 rfl) ?_
      refine lv_if_eq (tgt := 562) hx hb dL_isStep_554 (by decide) (fun c0 => absurd c0 (by decide +kernel)) (fun _ => ?_)
      refine lv_iload hx hb dL_isStep_557 (lv_at hl 1 rfl) ?_
      refine lv_goto (tgt := 564) hx hb dL_isStep_559 (by decide) ?_
      refine lv_icmp_ne (tgt := 621) hx hb dL_isStep_564 (by decide) (fun c0 => absurd rfl c0) (fun _ => ?_)
      refine lv_aload_n hx hb dL_isStep_567 rfl (lv_at hl 6 rfl) ?_
      refine lv_iload hx hb dL_isStep_568 (lv_at hl 4 rfl) ?_
      refine lv_bipush (v := nI 6) hx hb dL_isStep_570 (by decide +kernel) ?_
      refine k_o (As := [.int (nI jq), .int (nI 6)]) (rest := []) X hW (A_of a1 (nI jq) (nI 6)) yw_X4_of lk_L_15 ⟨Nat.le_of_ble_eq_true rfl, Nat.le_of_ble_eq_true rfl⟩ rfl hl.1 rfl (Nat.le_of_ble_eq_true rfl) ⟨Nat.zero_le _, Nat.zero_le _⟩ dL_isStep_572 (fun H locs hW => ?_)
      refine k_top (y := u (6 + jq) 7 + nI 1) ((of_r hj).trans ((fact_6 _).trans f7)) ?_
      refine lv_iload hx hb dL_isStep_575 (lv_at hl 2 rfl) ?_
      refine lv_iload hx hb dL_isStep_577 (lv_at hl 3 rfl) ?_
      refine lv_if_eq (tgt := 586) hx hb dL_isStep_579 (by decide) (fun c0 => absurd c0 (by decide +kernel)) (fun _ => ?_)
      refine lv_iconst (v := nI 1) hx hb dL_isStep_582 (by decide +kernel) ?_
      refine lv_goto (tgt := 587) hx hb dL_isStep_583 (by decide) ?_
      refine lv_iadd hx hb dL_isStep_587 ?_
      refine lv_icmp_ne (tgt := 621) hx hb dL_isStep_588 (by decide) (fun c0 => absurd rfl c0) (fun _ => ?_)
      refine lv_iload hx hb dL_isStep_591 (lv_at hl 3 rfl) ?_
      refine lv_if_eq (tgt := 617) hx hb dL_isStep_593 (by decide) (fun c0 => absurd c0 (by decide +kernel)) (fun _ => ?_)
      refine lv_aload_n hx hb dL_isStep_596 rfl (lv_at hl 6 rfl) ?_
      refine lv_iload hx hb dL_isStep_597 (lv_at hl 1 rfl) ?_
      refine k_o (As := [.int (nI row.length)]) (rest := []) X hW (A_row a1 (nI row.length)) yw_X4_row lk_L_64 ⟨Nat.le_of_ble_eq_true rfl, Nat.le_of_ble_eq_true rfl⟩ rfl hl.1 rfl (Nat.le_of_ble_eq_true rfl) ⟨Nat.zero_le _, Nat.zero_le _⟩ dL_isStep_599 (fun H locs hW => ?_)
      refine k_top (y := nI jq) ((row_r (by omega)).trans (queueAt_some hR2 hn2 h32 (by simp))) ?_
      refine lv_iload hx hb dL_isStep_602 (lv_at hl 4 rfl) ?_
      refine lv_icmp_ne (tgt := 621) hx hb dL_isStep_604 (by decide) (fun c0 => absurd rfl c0) (fun _ => ?_)
      refine lv_aload_n hx hb dL_isStep_607 rfl (lv_at hl 6 rfl) ?_
      refine lv_iload hx hb dL_isStep_608 (lv_at hl 4 rfl) ?_
      refine k_o (As := [.int (nI jq)]) (rest := []) X hW (A_why a1 kW.1 (nI jq)) yw_X4_why lk_L_67 ⟨Nat.le_of_ble_eq_true rfl, Nat.le_of_ble_eq_true rfl⟩ rfl hl.1 rfl (Nat.le_of_ble_eq_true rfl) ⟨Nat.zero_le _, Nat.zero_le _⟩ dL_isStep_610 (fun H locs hW => ?_)
      refine k_top (y := nI 1) (by rw [why_r hj, m_X0_whySilent_r, m_X3_isCalled_r, if_neg fp, if_neg (show ¬ nI 1 = 0 by decide +kernel)]) ?_
      refine lv_iconst (v := nI 1) hx hb dL_isStep_613 (by decide +kernel) ?_
      refine lv_icmp_ne (tgt := 621) hx hb dL_isStep_614 (by decide) (fun c0 => absurd rfl c0) (fun _ => ?_)
      refine lv_iconst (v := nI 1) hx hb dL_isStep_617 (by decide +kernel) ?_
      refine lv_goto (tgt := 622) hx hb dL_isStep_618 (by decide) ?_
      exact fin _ _ _ _ _ _ hW dL_isStep_622 rfl ⟨_, _, _, _, _, a1, a2, hG.to kW (by omega) (by omega) (by omega) (by omega), rfl⟩
  · rw [if_neg cp] at k1 k2
    have kr := k1
    have k3 := k2.symm
    subst k3
    have ec : cn u = cn u := rfl
    have f7 : u (6 + jq) 7 = u (6 + jq) 7 := rfl
    refine k_o (As := [.int (nI jq), .int (nI 4)]) (rest := []) X hW (A_of h (nI jq) (nI 4)) yw_X4_of lk_L_15 ⟨Nat.le_of_ble_eq_true rfl, Nat.le_of_ble_eq_true rfl⟩ rfl hl.1 rfl (Nat.le_of_ble_eq_true rfl) ⟨Nat.zero_le _, Nat.zero_le _⟩ dL_isStep_491 (fun H locs hW => ?_)
    refine k_top (y := nI 1) ((of_r hj).trans (by rw [fact_4, if_neg cp])) ?_
    refine lv_if_ne (tgt := 511) hx hb dL_isStep_494 (by decide) (fun _ => ?_) (fun c0 => absurd c0 (by decide +kernel))
    refine lv_iconst (v := nI 0) hx hb dL_isStep_511 (by decide +kernel) ?_
    refine lv_istore (lv' := [(7, .int (nI 0)), (5, .int (nI jq)), (1, .ref (B2 0)), (0, .ref (B 0))]) hx hb dL_isStep_512 hl (by decide) rfl (fun ls hl => ?_)
    refine lv_aload_n hx hb dL_isStep_514 rfl (lv_at hl 3 rfl) ?_
    refine lv_iload hx hb dL_isStep_515 (lv_at hl 1 rfl) ?_
    refine lv_bipush (v := nI 6) hx hb dL_isStep_517 (by decide +kernel) ?_
    refine k_o (As := [.int (nI jq), .int (nI 6)]) (rest := []) X hW (A_of h (nI jq) (nI 6)) yw_X4_of lk_L_15 ⟨Nat.le_of_ble_eq_true rfl, Nat.le_of_ble_eq_true rfl⟩ rfl hl.1 rfl (Nat.le_of_ble_eq_true rfl) ⟨Nat.zero_le _, Nat.zero_le _⟩ dL_isStep_519 (fun H locs hW => ?_)
    refine k_top (y := u (6 + jq) 7) ((of_r hj).trans (fact_6 _)) ?_
    refine lv_istore (lv' := [(8, .int (u (6 + jq) 7)), (7, .int (nI 0)), (5, .int (nI jq)), (1, .ref (B2 0)), (0, .ref (B 0))]) hx hb dL_isStep_522 hl (by decide) rfl (fun ls hl => ?_)
    refine lv_aload_n hx hb dL_isStep_524 rfl (lv_at hl 4 rfl) ?_
    refine lv_iconst (v := nI 4) hx hb dL_isStep_525 (by decide +kernel) ?_
    refine kSw (As := [.ref (B 0), .int (nI 4)]) (rest := []) X hW (A_sum h (nI 4)) yw_L_sum lk_L_57 ⟨Nat.le_of_ble_eq_true rfl, Nat.le_of_ble_eq_true rfl⟩ (wr := OW k B2 A1 q) (w' := OW k B A0 o ++ OW k B2 A1 q) List.perm_append_comm List.perm_append_comm rfl hl.1 rfl (Nat.le_of_ble_eq_true rfl) ⟨Nat.zero_le _, Nat.zero_le _⟩ dL_isStep_526 (fun H locs hW => ?_)
    refine k_top (y := nI row.length) (sum4 hR hn h3).symm ?_
    refine lv_istore (lv' := [(9, .int (nI row.length)), (8, .int (u (6 + jq) 7)), (7, .int (nI 0)), (5, .int (nI jq)), (1, .ref (B2 0)), (0, .ref (B 0))]) hx hb dL_isStep_529 hl (by decide) rfl (fun ls hl => ?_)
    refine lv_aload_n hx hb dL_isStep_531 rfl (lv_at hl 5 rfl) ?_
    refine lv_iload hx hb dL_isStep_532 (lv_at hl 3 rfl) ?_
    refine k_o (As := [.int (nI jq)]) (rest := []) X hW (A_call h hO (nI jq)) yw_X4_call lk_L_61 ⟨Nat.le_of_ble_eq_true rfl, Nat.le_of_ble_eq_true rfl⟩ rfl hl.1 rfl (Nat.le_of_ble_eq_true rfl) ⟨Nat.zero_le _, Nat.zero_le _⟩ dL_isStep_534 (fun H locs hW => ?_)
    have a1 := AT_chg (r := m_X0_callByHand_r u (nI jq)) (u' := m_X0_callByHand_u u (nI jq)) h
    obtain ⟨o1, e_o1⟩ : ∃ zq, oChg o (m_X0_callByHand_u u (nI jq)) (m_X0_callByHand_r u (nI jq)) = zq := ⟨_, rfl⟩
    rw [e_o1] at hW a1
    refine k_top (y := (-5)) kr ?_
    rw [eu] at a1
    refine lv_istore (lv' := [(10, .int (-5)), (9, .int (nI row.length)), (8, .int (u (6 + jq) 7)), (7, .int (nI 0)), (5, .int (nI jq)), (1, .ref (B2 0)), (0, .ref (B 0))]) hx hb dL_isStep_537 hl (by decide) rfl (fun ls hl => ?_)
    refine lv_iload hx hb dL_isStep_539 (lv_at hl 0 rfl) ?_
    refine lv_aload_n hx hb dL_isStep_541 rfl (lv_at hl 5 rfl) ?_
    refine lv_iload hx hb dL_isStep_542 (lv_at hl 4 rfl) ?_
    refine k_p (As := [.int (nI jq)]) (rest := [.int (-5)]) X hW (A_call g hO (nI jq)) yw_X4_call lk_L_61 ⟨Nat.le_of_ble_eq_true rfl, Nat.le_of_ble_eq_true rfl⟩ rfl hl.1 rfl (Nat.le_of_ble_eq_true rfl) ⟨Nat.zero_le _, Nat.zero_le _⟩ dL_isStep_544 (fun H locs hW => ?_)
    have a2 := AT_chg (r := m_X0_callByHand_r u (nI jq)) (u' := m_X0_callByHand_u u (nI jq)) g
    obtain ⟨q2, e_q2⟩ : ∃ zq, oChg q (m_X0_callByHand_u u (nI jq)) (m_X0_callByHand_r u (nI jq)) = zq := ⟨_, rfl⟩
    rw [e_q2] at hW a2
    refine k_top (y := (-5)) kr ?_
    rw [eu] at a2
    refine lv_icmp_ne (tgt := 621) hx hb dL_isStep_547 (by decide) (fun c0 => absurd rfl c0) (fun _ => ?_)
    refine lv_iload hx hb dL_isStep_550 (lv_at hl 0 rfl) ?_
    refine lv_iload hx hb dL_isStep_552 (lv_at hl 3 rfl) ?_
    refine lv_if_eq (tgt := 562) hx hb dL_isStep_554 (by decide) (fun _ => ?_) (fun c0 => absurd rfl c0)
    refine lv_bipush (v := (-5)) hx hb dL_isStep_562 (by decide +kernel) ?_
    refine lv_icmp_ne (tgt := 621) hx hb dL_isStep_564 (by decide) (fun c0 => absurd rfl c0) (fun _ => ?_)
    refine lv_aload_n hx hb dL_isStep_567 rfl (lv_at hl 6 rfl) ?_
    refine lv_iload hx hb dL_isStep_568 (lv_at hl 4 rfl) ?_
    refine lv_bipush (v := nI 6) hx hb dL_isStep_570 (by decide +kernel) ?_
    refine k_o (As := [.int (nI jq), .int (nI 6)]) (rest := []) X hW (A_of a1 (nI jq) (nI 6)) yw_X4_of lk_L_15 ⟨Nat.le_of_ble_eq_true rfl, Nat.le_of_ble_eq_true rfl⟩ rfl hl.1 rfl (Nat.le_of_ble_eq_true rfl) ⟨Nat.zero_le _, Nat.zero_le _⟩ dL_isStep_572 (fun H locs hW => ?_)
    refine k_top (y := u (6 + jq) 7) ((of_r hj).trans ((fact_6 _).trans f7)) ?_
    refine lv_iload hx hb dL_isStep_575 (lv_at hl 2 rfl) ?_
    refine lv_iload hx hb dL_isStep_577 (lv_at hl 3 rfl) ?_
    refine lv_if_eq (tgt := 586) hx hb dL_isStep_579 (by decide) (fun _ => ?_) (fun c0 => absurd rfl c0)
    refine lv_iconst (v := nI 0) hx hb dL_isStep_586 (by decide +kernel) ?_
    refine lv_iadd hx hb dL_isStep_587 ?_
    refine k_top (y := u (6 + jq) 7) (Int32.add_zero _) ?_
    refine lv_icmp_ne (tgt := 621) hx hb dL_isStep_588 (by decide) (fun c0 => absurd rfl c0) (fun _ => ?_)
    refine lv_iload hx hb dL_isStep_591 (lv_at hl 3 rfl) ?_
    refine lv_if_eq (tgt := 617) hx hb dL_isStep_593 (by decide) (fun _ => ?_) (fun c0 => absurd rfl c0)
    refine lv_iconst (v := nI 1) hx hb dL_isStep_617 (by decide +kernel) ?_
    refine lv_goto (tgt := 622) hx hb dL_isStep_618 (by decide) ?_
    exact fin _ _ _ _ _ _ hW dL_isStep_622 rfl ⟨_, _, _, _, _, a1, a2, hG.to kW (by omega) (by omega) (by omega) (by omega), rfl⟩
end
