section
variable {p : Program} {l : Launch} {e : Env} {s : State} {m : MethodId} {args : Array Value} {below : List Frame} {meth : Method} {c : Code} {Ts : List Cond} {D : va_G} {k : Nat → ClassId} {P : Nat → Prop} {Q : State → Prop} {B B2 : Nat → Nat} {A0 A1 : Nat → Nat → Nat} {H : Heap} {locs : List Loc} {ls : Array Slot} {o q : OB} {u : CS} {S : Nat → CS} {sv : Nat → Int32} {T C : Nat} {x y z : Int32} {jq : Nat}
set_option maxHeartbeats 1000000 in
set_option maxRecDepth 100000 in
theorem step_slots (X : KX p s m args meth c cL_isStep 14 Ts RL D k P) (h : AT o u S sv) (g : AT q u S sv) (hG : GD u S sv T C) (hT9 : T + 99 ≤ 9999) (hC4 : C + 5 ≤ 400) (hj : jq < 3) (fin : ∀ (w : va_W) (H : Heap) (locs : List Loc) (pc : Nat) (ls : Array Slot) (v : Int32), KW D P s w H locs → decode cL_isStep pc = .ok (.ireturn, 1) → v = nI 1 → PW k B A0 B2 A1 (T + 99) (C + 5) w → W p l e (rmD 9) s m args below meth c H locs 0 0 Q (F0 m pc ls [.int v])) (hW : KW D P s (OW k B A0 o ++ OW k B2 A1 q) H locs) (hl : lv_has ls 14 [(4, .int z), (3, .int y), (1, .ref (B2 0)), (0, .ref (B 0))]) : W p l e (rmD 9) s m args below meth c H locs 0 0 Q (F0 m 851 ls []) := by
  have hx := X.hx
  have hb := X.hb
  obtain ⟨⟨⟨t, ht, hw⟩, hcC⟩, hsl⟩ := id hG
  have hM := hw.1
  have hc := hM.2.1
  have hO := hw.okc
  have hQ := hw.2.2.2.2.1 jq hj
  refine lv_iload_n hx hb dL_isStep_851 rfl (lv_at hl 1 rfl) ?_
  refine lv_iconst (v := nI 2) hx hb dL_isStep_852 (by decide +kernel) ?_
  refine kSi (As := [.int y, .int (nI 2)]) (rest := []) X hW (c_L_up l D k y 2 (by decide) (by decide)) yw_L_up lk_L_19 ⟨Nat.le_of_ble_eq_true rfl, Nat.le_of_ble_eq_true rfl⟩ rfl hl.1 rfl (Nat.le_of_ble_eq_true rfl) ⟨Nat.zero_le _, Nat.zero_le _⟩ dL_isStep_853 (fun H locs hW => ?_)
  obtain ⟨ba, e_ba⟩ : ∃ zq, upn y 2 = zq := ⟨_, rfl⟩
  have h_ba : ba < 2 := by rw [← e_ba]; exact upn_lt _ (by decide)
  refine k_top (y := nI ba) (congrArg nI e_ba) ?_
  refine lv_if_ne (tgt := 890) hx hb dL_isStep_856 (by decide) (fun ca => ?_) (fun ca => ?_)
  · refine lv_aload_n hx hb dL_isStep_890 rfl (lv_at hl 3 rfl) ?_
    refine lv_iload hx hb dL_isStep_891 (lv_at hl 0 rfl) ?_
    refine lv_iconst (v := nI 2) hx hb dL_isStep_893 (by decide +kernel) ?_
    refine kSi (As := [.int z, .int (nI 2)]) (rest := [.ref (B 0)]) X hW (c_L_up l D k z 2 (by decide) (by decide)) yw_L_up lk_L_19 ⟨Nat.le_of_ble_eq_true rfl, Nat.le_of_ble_eq_true rfl⟩ rfl hl.1 rfl (Nat.le_of_ble_eq_true rfl) ⟨Nat.zero_le _, Nat.zero_le _⟩ dL_isStep_894 (fun H locs hW => ?_)
    obtain ⟨si, e_si⟩ : ∃ zq, upn z 2 = zq := ⟨_, rfl⟩
    have h_si : si < 2 := by rw [← e_si]; exact upn_lt _ (by decide)
    refine k_top (y := nI si) (congrArg nI e_si) ?_
    rcases hsl si h_si with s0 | ⟨s0, ⟨t2, ht2, hw2⟩, hc2⟩
    · refine k_o (As := [.int (nI si)]) (rest := []) X hW (A_restore0 h h_si s0) yw_X4_restore lk_L_81 ⟨Nat.le_of_ble_eq_true rfl, Nat.le_of_ble_eq_true rfl⟩ rfl hl.1 rfl (Nat.le_of_ble_eq_true rfl) ⟨Nat.zero_le _, Nat.zero_le _⟩ dL_isStep_897 (fun H locs hW => ?_)
      refine lv_aload_n hx hb dL_isStep_900 rfl (lv_at hl 2 rfl) ?_
      refine lv_iload hx hb dL_isStep_901 (lv_at hl 0 rfl) ?_
      refine lv_iconst (v := nI 2) hx hb dL_isStep_903 (by decide +kernel) ?_
      refine kSi (As := [.int z, .int (nI 2)]) (rest := [.ref (B2 0), .int (-5)]) X hW (c_L_up l D k z 2 (by decide) (by decide)) yw_L_up lk_L_19 ⟨Nat.le_of_ble_eq_true rfl, Nat.le_of_ble_eq_true rfl⟩ rfl hl.1 rfl (Nat.le_of_ble_eq_true rfl) ⟨Nat.zero_le _, Nat.zero_le _⟩ dL_isStep_904 (fun H locs hW => ?_)
      refine k_top (y := nI si) (congrArg nI e_si) ?_
      refine k_p (As := [.int (nI si)]) (rest := [.int (-5)]) X hW (A_restore0 g h_si s0) yw_X4_restore lk_L_81 ⟨Nat.le_of_ble_eq_true rfl, Nat.le_of_ble_eq_true rfl⟩ rfl hl.1 rfl (Nat.le_of_ble_eq_true rfl) ⟨Nat.zero_le _, Nat.zero_le _⟩ dL_isStep_907 (fun H locs hW => ?_)
      refine lv_icmp_ne (tgt := 917) hx hb dL_isStep_910 (by decide) (fun c0 => absurd rfl c0) (fun _ => ?_)
      refine lv_iconst (v := nI 1) hx hb dL_isStep_913 (by decide +kernel) ?_
      refine lv_goto (tgt := 918) hx hb dL_isStep_914 (by decide) ?_
      exact fin _ _ _ _ _ _ hW dL_isStep_918 rfl ⟨_, _, _, _, _, h, g, hG.to hw (by omega) (by omega) (by omega) (by omega), rfl⟩
    · obtain ⟨kc1, kc2⟩ := WL_copy (p := u) hw2
      have hO2 := hw2.okc
      refine k_o (As := [.int (nI si)]) (rest := []) X hW (A_restore h hO h_si s0 hO2) yw_X4_restore lk_L_81 ⟨Nat.le_of_ble_eq_true rfl, Nat.le_of_ble_eq_true rfl⟩ rfl hl.1 rfl (Nat.le_of_ble_eq_true rfl) ⟨Nat.zero_le _, Nat.zero_le _⟩ dL_isStep_897 (fun H locs hW => ?_)
      have a1 := AT_chg (r := m_X0_copyFrom_u u (S si) 0 3) (u' := m_X0_copyFrom_u u (S si)) h
      obtain ⟨o1, e_o1⟩ : ∃ zq, oChg o (m_X0_copyFrom_u u (S si)) (m_X0_copyFrom_u u (S si) 0 3) = zq := ⟨_, rfl⟩
      rw [e_o1] at hW a1
      refine lv_aload_n hx hb dL_isStep_900 rfl (lv_at hl 2 rfl) ?_
      refine lv_iload hx hb dL_isStep_901 (lv_at hl 0 rfl) ?_
      refine lv_iconst (v := nI 2) hx hb dL_isStep_903 (by decide +kernel) ?_
      refine kSi (As := [.int z, .int (nI 2)]) (rest := [.ref (B2 0), .int (m_X0_copyFrom_u u (S si) 0 3)]) X hW (c_L_up l D k z 2 (by decide) (by decide)) yw_L_up lk_L_19 ⟨Nat.le_of_ble_eq_true rfl, Nat.le_of_ble_eq_true rfl⟩ rfl hl.1 rfl (Nat.le_of_ble_eq_true rfl) ⟨Nat.zero_le _, Nat.zero_le _⟩ dL_isStep_904 (fun H locs hW => ?_)
      refine k_top (y := nI si) (congrArg nI e_si) ?_
      refine k_p (As := [.int (nI si)]) (rest := [.int (m_X0_copyFrom_u u (S si) 0 3)]) X hW (A_restore g hO h_si s0 hO2) yw_X4_restore lk_L_81 ⟨Nat.le_of_ble_eq_true rfl, Nat.le_of_ble_eq_true rfl⟩ rfl hl.1 rfl (Nat.le_of_ble_eq_true rfl) ⟨Nat.zero_le _, Nat.zero_le _⟩ dL_isStep_907 (fun H locs hW => ?_)
      have a2 := AT_chg (r := m_X0_copyFrom_u u (S si) 0 3) (u' := m_X0_copyFrom_u u (S si)) g
      obtain ⟨q2, e_q2⟩ : ∃ zq, oChg q (m_X0_copyFrom_u u (S si)) (m_X0_copyFrom_u u (S si) 0 3) = zq := ⟨_, rfl⟩
      rw [e_q2] at hW a2
      refine lv_icmp_ne (tgt := 917) hx hb dL_isStep_910 (by decide) (fun c0 => absurd rfl c0) (fun _ => ?_)
      refine lv_iconst (v := nI 1) hx hb dL_isStep_913 (by decide +kernel) ?_
      refine lv_goto (tgt := 918) hx hb dL_isStep_914 (by decide) ?_
      exact fin _ _ _ _ _ _ hW dL_isStep_918 rfl ⟨_, _, _, _, _, a1, a2, hG.to kc1 (by omega) (by omega) (by omega) (by omega), rfl⟩
  · refine lv_aload_n hx hb dL_isStep_859 rfl (lv_at hl 3 rfl) ?_
    refine lv_iload hx hb dL_isStep_860 (lv_at hl 0 rfl) ?_
    refine lv_iconst (v := nI 2) hx hb dL_isStep_862 (by decide +kernel) ?_
    refine kSi (As := [.int z, .int (nI 2)]) (rest := [.ref (B 0)]) X hW (c_L_up l D k z 2 (by decide) (by decide)) yw_L_up lk_L_19 ⟨Nat.le_of_ble_eq_true rfl, Nat.le_of_ble_eq_true rfl⟩ rfl hl.1 rfl (Nat.le_of_ble_eq_true rfl) ⟨Nat.zero_le _, Nat.zero_le _⟩ dL_isStep_863 (fun H locs hW => ?_)
    obtain ⟨si, e_si⟩ : ∃ zq, upn z 2 = zq := ⟨_, rfl⟩
    have h_si : si < 2 := by rw [← e_si]; exact upn_lt _ (by decide)
    refine k_top (y := nI si) (congrArg nI e_si) ?_
    obtain ⟨o1, a1, m1⟩ := A_save (l := l) (D := D) (k := k) (B := B) (A := A0) h hO h_si
    refine k_o (As := [.int (nI si)]) (rest := []) X hW m1 yw_X4_save lk_L_78 ⟨Nat.le_of_ble_eq_true rfl, Nat.le_of_ble_eq_true rfl⟩ rfl hl.1 rfl (Nat.le_of_ble_eq_true rfl) ⟨Nat.zero_le _, Nat.zero_le _⟩ dL_isStep_866 (fun H locs hW => ?_)
    refine lv_aload_n hx hb dL_isStep_869 rfl (lv_at hl 2 rfl) ?_
    refine lv_iload hx hb dL_isStep_870 (lv_at hl 0 rfl) ?_
    refine lv_iconst (v := nI 2) hx hb dL_isStep_872 (by decide +kernel) ?_
    refine kSi (As := [.int z, .int (nI 2)]) (rest := [.ref (B2 0), .int (u 0 3)]) X hW (c_L_up l D k z 2 (by decide) (by decide)) yw_L_up lk_L_19 ⟨Nat.le_of_ble_eq_true rfl, Nat.le_of_ble_eq_true rfl⟩ rfl hl.1 rfl (Nat.le_of_ble_eq_true rfl) ⟨Nat.zero_le _, Nat.zero_le _⟩ dL_isStep_873 (fun H locs hW => ?_)
    refine k_top (y := nI si) (congrArg nI e_si) ?_
    obtain ⟨q2, a2, m2⟩ := A_save (l := l) (D := D) (k := k) (B := B2) (A := A1) g hO h_si
    refine k_p (As := [.int (nI si)]) (rest := [.int (u 0 3)]) X hW m2 yw_X4_save lk_L_78 ⟨Nat.le_of_ble_eq_true rfl, Nat.le_of_ble_eq_true rfl⟩ rfl hl.1 rfl (Nat.le_of_ble_eq_true rfl) ⟨Nat.zero_le _, Nat.zero_le _⟩ dL_isStep_876 (fun H locs hW => ?_)
    refine lv_icmp_ne (tgt := 886) hx hb dL_isStep_879 (by decide) (fun c0 => absurd rfl c0) (fun _ => ?_)
    obtain ⟨kc1, kc2⟩ := WL_copy (p := S si) hw
    have gd : GD u (setC S si (m_X0_copyFrom_u (S si) u)) (upd sv si (nI 1)) (T + 99) (C + 5) := ⟨⟨⟨t, by omega, hw⟩, by omega⟩, fun j hj2 => by
      by_cases ej : j = si
      · subst ej; rw [setC_i, pk_us]; exact Or.inr ⟨rfl, ⟨t, by omega, kc1⟩, by omega⟩
      · rw [setC_n ej, pk_un ej]; exact (hsl j hj2).le (by omega) (by omega)⟩
    refine lv_iconst (v := nI 1) hx hb dL_isStep_882 (by decide +kernel) ?_
    refine lv_goto (tgt := 918) hx hb dL_isStep_883 (by decide) ?_
    exact fin _ _ _ _ _ _ hW dL_isStep_918 rfl ⟨_, _, _, _, _, a1, a2, gd, rfl⟩
end
