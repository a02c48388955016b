section
variable {p : Program} {l : Launch} {e : Env} {s : State} {m : MethodId} {args : Array Value} {below : List Frame} {meth : Method} {c : Code} {Ts : List Cond} {D : va_G} {k : Nat → ClassId} {P : Nat → Prop} {Q : State → Prop} {B B2 : Nat → Nat} {A0 A1 : Nat → Nat → Nat} {H : Heap} {locs : List Loc} {ls : Array Slot} {o q : OB} {u : CS} {S : Nat → CS} {sv : Nat → Int32} {T C : Nat} {x y z : Int32} {jq : Nat}
set_option maxHeartbeats 1000000 in
set_option maxRecDepth 100000 in
theorem step_set_tail (X : KX p s m args meth c cL_isStep 14 Ts RL D k P) (h : AT o u S sv) (g : AT q u S sv) (hG : GD u S sv T C) (hT9 : T + 99 ≤ 9999) (hC4 : C + 5 ≤ 400) (hj : jq < 3) (fin : ∀ (w : va_W) (H : Heap) (locs : List Loc) (pc : Nat) (ls : Array Slot) (v : Int32), KW D P s w H locs → decode cL_isStep pc = .ok (.ireturn, 1) → v = nI 1 → PW k B A0 B2 A1 (T + 99) (C + 5) w → W p l e (rmD 9) s m args below meth c H locs 0 0 Q (F0 m pc ls [.int v])) (hW : KW D P s (OW k B A0 o ++ OW k B2 A1 q) H locs) {wh vv : Nat} (hv : setOk wh vv) (hl : lv_has ls 14 [(8, .int (nI vv)), (7, .int (nI wh)), (1, .ref (B2 0)), (0, .ref (B 0))]) : W p l e (rmD 9) s m args below meth c H locs 0 0 Q (F0 m 156 ls []) := by
  have hx := X.hx
  have hb := X.hb
  obtain ⟨⟨⟨t, ht, hw⟩, hcC⟩, hsl⟩ := id hG
  have hM := hw.1
  have hc := hM.2.1
  have hO := hw.okc
  have hQ := hw.2.2.2.2.1 jq hj
  have hwh : wh < 4 := by unfold setOk at hv; omega
  obtain ⟨k1, k2, k3⟩ := WL_set hw hv
  have e1 : m_X0_changeSetting_u u (nI wh) (nI vv) 1 wh = nI vv := by rw [k2, st2_s, pk_us]
  have ec : cn (m_X0_changeSetting_u u (nI wh) (nI vv)) = cn u := cn_of (by rw [k2, st2_n (by decide)])
  refine lv_aload_n hx hb dL_isStep_156 rfl (lv_at hl 3 rfl) ?_
  refine lv_bipush (v := nI 7) hx hb dL_isStep_157 (by decide +kernel) ?_
  refine lv_iload hx hb dL_isStep_159 (lv_at hl 1 rfl) ?_
  refine lv_iadd hx hb dL_isStep_161 ?_
  refine k_top (y := nI (7 + wh)) (nI_add _ _) ?_
  refine k_o (As := [.int (nI (7 + wh))]) (rest := []) X hW (A_count h (j := 7 + wh) (by omega)) yw_X4_count lk_L_24 ⟨Nat.le_of_ble_eq_true rfl, Nat.le_of_ble_eq_true rfl⟩ rfl hl.1 rfl (Nat.le_of_ble_eq_true rfl) ⟨Nat.zero_le _, Nat.zero_le _⟩ dL_isStep_162 (fun H locs hW => ?_)
  refine k_top (y := u 1 wh) (ctr_s hwh) ?_
  refine lv_istore (lv' := [(9, .int (u 1 wh)), (8, .int (nI vv)), (7, .int (nI wh)), (1, .ref (B2 0)), (0, .ref (B 0))]) hx hb dL_isStep_165 hl (by decide) rfl (fun ls hl => ?_)
  refine lv_aload_n hx hb dL_isStep_167 rfl (lv_at hl 4 rfl) ?_
  refine lv_iload hx hb dL_isStep_168 (lv_at hl 2 rfl) ?_
  refine lv_iload hx hb dL_isStep_170 (lv_at hl 1 rfl) ?_
  refine k_o (As := [.int (nI wh), .int (nI vv)]) (rest := []) X hW (A_set h hO (nI wh) (nI vv)) yw_X4_set lk_L_28 ⟨Nat.le_of_ble_eq_true rfl, Nat.le_of_ble_eq_true rfl⟩ rfl hl.1 rfl (Nat.le_of_ble_eq_true rfl) ⟨Nat.zero_le _, Nat.zero_le _⟩ dL_isStep_172 (fun H locs hW => ?_)
  have a1 := AT_chg (r := m_X0_changeSetting_r u (nI wh) (nI vv)) (u' := m_X0_changeSetting_u u (nI wh) (nI vv)) h
  obtain ⟨o1, e_o1⟩ : ∃ zq, oChg o (m_X0_changeSetting_u u (nI wh) (nI vv)) (m_X0_changeSetting_r u (nI wh) (nI vv)) = zq := ⟨_, rfl⟩
  rw [e_o1] at hW a1
  refine k_top (y := u 1 wh) k1 ?_
  refine lv_iload hx hb dL_isStep_175 (lv_at hl 0 rfl) ?_
  refine lv_icmp_ne (tgt := 211) hx hb dL_isStep_177 (by decide) (fun c0 => absurd rfl c0) (fun _ => ?_)
  refine lv_aload_n hx hb dL_isStep_180 rfl (lv_at hl 3 rfl) ?_
  refine lv_iload hx hb dL_isStep_181 (lv_at hl 2 rfl) ?_
  refine lv_iload hx hb dL_isStep_183 (lv_at hl 1 rfl) ?_
  refine k_p (As := [.int (nI wh), .int (nI vv)]) (rest := []) X hW (A_set g hO (nI wh) (nI vv)) yw_X4_set lk_L_28 ⟨Nat.le_of_ble_eq_true rfl, Nat.le_of_ble_eq_true rfl⟩ rfl hl.1 rfl (Nat.le_of_ble_eq_true rfl) ⟨Nat.zero_le _, Nat.zero_le _⟩ dL_isStep_185 (fun H locs hW => ?_)
  have a2 := AT_chg (r := m_X0_changeSetting_r u (nI wh) (nI vv)) (u' := m_X0_changeSetting_u u (nI wh) (nI vv)) g
  obtain ⟨q2, e_q2⟩ : ∃ zq, oChg q (m_X0_changeSetting_u u (nI wh) (nI vv)) (m_X0_changeSetting_r u (nI wh) (nI vv)) = zq := ⟨_, rfl⟩
  rw [e_q2] at hW a2
  refine k_top (y := u 1 wh) k1 ?_
  refine lv_iload hx hb dL_isStep_188 (lv_at hl 0 rfl) ?_
  refine lv_icmp_ne (tgt := 211) hx hb dL_isStep_190 (by decide) (fun c0 => absurd rfl c0) (fun _ => ?_)
  refine lv_aload_n hx hb dL_isStep_193 rfl (lv_at hl 4 rfl) ?_
  refine lv_bipush (v := nI 7) hx hb dL_isStep_194 (by decide +kernel) ?_
  refine lv_iload hx hb dL_isStep_196 (lv_at hl 2 rfl) ?_
  refine lv_iadd hx hb dL_isStep_198 ?_
  refine k_top (y := nI (7 + wh)) (nI_add _ _) ?_
  refine k_o (As := [.int (nI (7 + wh))]) (rest := []) X hW (A_count a1 (j := 7 + wh) (by omega)) yw_X4_count lk_L_24 ⟨Nat.le_of_ble_eq_true rfl, Nat.le_of_ble_eq_true rfl⟩ rfl hl.1 rfl (Nat.le_of_ble_eq_true rfl) ⟨Nat.zero_le _, Nat.zero_le _⟩ dL_isStep_199 (fun H locs hW => ?_)
  refine k_top (y := nI vv) ((ctr_s hwh).trans e1) ?_
  refine lv_iload hx hb dL_isStep_202 (lv_at hl 1 rfl) ?_
  refine lv_icmp_ne (tgt := 211) hx hb dL_isStep_204 (by decide) (fun c0 => absurd rfl c0) (fun _ => ?_)
  refine lv_iconst (v := nI 1) hx hb dL_isStep_207 (by decide +kernel) ?_
  refine lv_goto (tgt := 212) hx hb dL_isStep_208 (by decide) ?_
  exact fin _ _ _ _ _ _ hW dL_isStep_212 rfl ⟨_, _, _, _, _, a1, a2, hG.to k3 (by omega) (by omega) (by omega) (by omega), rfl⟩
set_option maxHeartbeats 1000000 in
set_option maxRecDepth 100000 in
theorem step_set (X : KX p s m args meth c cL_isStep 14 Ts RL D k P) (h : AT o u S sv) (g : AT q u S sv) (hG : GD u S sv T C) (hT9 : T + 99 ≤ 9999) (hC4 : C + 5 ≤ 400) (hj : jq < 3) (fin : ∀ (w : va_W) (H : Heap) (locs : List Loc) (pc : Nat) (ls : Array Slot) (v : Int32), KW D P s w H locs → decode cL_isStep pc = .ok (.ireturn, 1) → v = nI 1 → PW k B A0 B2 A1 (T + 99) (C + 5) w → W p l e (rmD 9) s m args below meth c H locs 0 0 Q (F0 m pc ls [.int v])) (hW : KW D P s (OW k B A0 o ++ OW k B2 A1 q) H locs) (hl : lv_has ls 14 [(4, .int z), (3, .int y), (1, .ref (B2 0)), (0, .ref (B 0))]) : W p l e (rmD 9) s m args below meth c H locs 0 0 Q (F0 m 80 ls []) := by
  have hx := X.hx
  have hb := X.hb
  refine lv_iload hx hb dL_isStep_80 (lv_at hl 0 rfl) ?_
  refine lv_iconst (v := nI 4) hx hb dL_isStep_82 (by decide +kernel) ?_
  refine kSi (As := [.int z, .int (nI 4)]) (rest := []) X hW (c_L_up l D k z 4 (by decide) (by decide)) yw_L_up lk_L_19 ⟨Nat.le_of_ble_eq_true rfl, Nat.le_of_ble_eq_true rfl⟩ rfl hl.1 rfl (Nat.le_of_ble_eq_true rfl) ⟨Nat.zero_le _, Nat.zero_le _⟩ dL_isStep_83 (fun H locs hW => ?_)
  obtain ⟨wh, e_wh⟩ : ∃ zq, upn z 4 = zq := ⟨_, rfl⟩
  have h_wh : wh < 4 := by rw [← e_wh]; exact upn_lt _ (by decide)
  refine k_top (y := nI wh) (congrArg nI e_wh) ?_
  refine lv_istore (lv' := [(7, .int (nI wh)), (4, .int z), (3, .int y), (1, .ref (B2 0)), (0, .ref (B 0))]) hx hb dL_isStep_86 hl (by decide) rfl (fun ls hl => ?_)
  refine lv_iload hx hb dL_isStep_88 (lv_at hl 0 rfl) ?_
  rcases (by omega : wh = 0 ∨ wh = 1 ∨ wh = 2 ∨ wh = 3) with rfl | rfl | rfl | rfl
  · refine lv_if_ne (tgt := 104) hx hb dL_isStep_90 (by decide) (fun c0 => absurd rfl c0) (fun _ => ?_)
    refine lv_iconst (v := nI 1) hx hb dL_isStep_93 (by decide +kernel) ?_
    refine lv_iload_n hx hb dL_isStep_94 rfl (lv_at hl 2 rfl) ?_
    refine lv_bipush (v := nI 32) hx hb dL_isStep_95 (by decide +kernel) ?_
    refine kSi (As := [.int y, .int (nI 32)]) (rest := [.int (nI 1)]) X hW (c_L_up l D k y 32 (by decide) (by decide)) yw_L_up lk_L_19 ⟨Nat.le_of_ble_eq_true rfl, Nat.le_of_ble_eq_true rfl⟩ rfl hl.1 rfl (Nat.le_of_ble_eq_true rfl) ⟨Nat.zero_le _, Nat.zero_le _⟩ dL_isStep_97 (fun H locs hW => ?_)
    obtain ⟨vv, e_vv⟩ : ∃ zq, upn y 32 = zq := ⟨_, rfl⟩
    have h_vv : vv < 32 := by rw [← e_vv]; exact upn_lt _ (by decide)
    refine k_top (y := nI vv) (congrArg nI e_vv) ?_
    refine lv_iadd hx hb dL_isStep_100 ?_
    refine k_top (y := nI (1 + vv)) (nI_add _ _) ?_
    refine lv_goto (tgt := 154) hx hb dL_isStep_101 (by decide) ?_
    refine lv_istore (lv' := [(8, .int (nI (1 + vv))), (7, .int (nI 0)), (4, .int z), (3, .int y), (1, .ref (B2 0)), (0, .ref (B 0))]) hx hb dL_isStep_154 hl (by decide) rfl (fun ls hl => ?_)
    exact step_set_tail X h g hG hT9 hC4 hj fin hW (wh := 0) (vv := 1 + vv) (by unfold setOk; omega) (lv_sub hl [0, 1, 4, 5] rfl)
  · refine lv_if_ne (tgt := 104) hx hb dL_isStep_90 (by decide) (fun _ => ?_) (fun c0 => absurd c0 (by decide +kernel))
    refine lv_iload hx hb dL_isStep_104 (lv_at hl 0 rfl) ?_
    refine lv_iconst (v := nI 1) hx hb dL_isStep_106 (by decide +kernel) ?_
    refine lv_icmp_ne (tgt := 134) hx hb dL_isStep_107 (by decide) (fun c0 => absurd rfl c0) (fun _ => ?_)
    refine lv_iconst (v := nI 1) hx hb dL_isStep_110 (by decide +kernel) ?_
    refine lv_iload_n hx hb dL_isStep_111 rfl (lv_at hl 2 rfl) ?_
    refine lv_iload hx hb dL_isStep_112 (lv_at hl 1 rfl) ?_
    refine lv_iconst (v := nI 2) hx hb dL_isStep_114 (by decide +kernel) ?_
    refine kSi (As := [.int z, .int (nI 2)]) (rest := [.int y, .int (nI 1)]) X hW (c_L_up l D k z 2 (by decide) (by decide)) yw_L_up lk_L_19 ⟨Nat.le_of_ble_eq_true rfl, Nat.le_of_ble_eq_true rfl⟩ rfl hl.1 rfl (Nat.le_of_ble_eq_true rfl) ⟨Nat.zero_le _, Nat.zero_le _⟩ dL_isStep_115 (fun H locs hW => ?_)
    obtain ⟨bb, e_bb⟩ : ∃ zq, upn z 2 = zq := ⟨_, rfl⟩
    have h_bb : bb < 2 := by rw [← e_bb]; exact upn_lt _ (by decide)
    refine k_top (y := nI bb) (congrArg nI e_bb) ?_
    refine lv_if_ne (tgt := 126) hx hb dL_isStep_118 (by decide) (fun cb => ?_) (fun cb => ?_)
    · refine lv_iconst (v := nI 3) hx hb dL_isStep_126 (by decide +kernel) ?_
      refine kSi (As := [.int y, .int (nI 3)]) (rest := [.int (nI 1)]) X hW (c_L_up l D k y 3 (by decide) (by decide)) yw_L_up lk_L_19 ⟨Nat.le_of_ble_eq_true rfl, Nat.le_of_ble_eq_true rfl⟩ rfl hl.1 rfl (Nat.le_of_ble_eq_true rfl) ⟨Nat.zero_le _, Nat.zero_le _⟩ dL_isStep_127 (fun H locs hW => ?_)
      obtain ⟨vv, e_vv⟩ : ∃ zq, upn y 3 = zq := ⟨_, rfl⟩
      have h_vv : vv < 3 := by rw [← e_vv]; exact upn_lt _ (by decide)
      refine k_top (y := nI vv) (congrArg nI e_vv) ?_
      refine lv_iadd hx hb dL_isStep_130 ?_
      refine k_top (y := nI (1 + vv)) (nI_add _ _) ?_
      refine lv_goto (tgt := 154) hx hb dL_isStep_131 (by decide) ?_
      refine lv_istore (lv' := [(8, .int (nI (1 + vv))), (7, .int (nI 1)), (4, .int z), (3, .int y), (1, .ref (B2 0)), (0, .ref (B 0))]) hx hb dL_isStep_154 hl (by decide) rfl (fun ls hl => ?_)
      exact step_set_tail X h g hG hT9 hC4 hj fin hW (wh := 1) (vv := 1 + vv) (by unfold setOk; omega) (lv_sub hl [0, 1, 4, 5] rfl)
    · refine lv_bipush (v := nI 16) hx hb dL_isStep_121 (by decide +kernel) ?_
      refine lv_goto (tgt := 127) hx hb dL_isStep_123 (by decide) ?_
      refine kSi (As := [.int y, .int (nI 16)]) (rest := [.int (nI 1)]) X hW (c_L_up l D k y 16 (by decide) (by decide)) yw_L_up lk_L_19 ⟨Nat.le_of_ble_eq_true rfl, Nat.le_of_ble_eq_true rfl⟩ rfl hl.1 rfl (Nat.le_of_ble_eq_true rfl) ⟨Nat.zero_le _, Nat.zero_le _⟩ dL_isStep_127 (fun H locs hW => ?_)
      obtain ⟨vv, e_vv⟩ : ∃ zq, upn y 16 = zq := ⟨_, rfl⟩
      have h_vv : vv < 16 := by rw [← e_vv]; exact upn_lt _ (by decide)
      refine k_top (y := nI vv) (congrArg nI e_vv) ?_
      refine lv_iadd hx hb dL_isStep_130 ?_
      refine k_top (y := nI (1 + vv)) (nI_add _ _) ?_
      refine lv_goto (tgt := 154) hx hb dL_isStep_131 (by decide) ?_
      refine lv_istore (lv' := [(8, .int (nI (1 + vv))), (7, .int (nI 1)), (4, .int z), (3, .int y), (1, .ref (B2 0)), (0, .ref (B 0))]) hx hb dL_isStep_154 hl (by decide) rfl (fun ls hl => ?_)
      exact step_set_tail X h g hG hT9 hC4 hj fin hW (wh := 1) (vv := 1 + vv) (by unfold setOk; omega) (lv_sub hl [0, 1, 4, 5] rfl)
  · refine lv_if_ne (tgt := 104) hx hb dL_isStep_90 (by decide) (fun _ => ?_) (fun c0 => absurd c0 (by decide +kernel))
    refine lv_iload hx hb dL_isStep_104 (lv_at hl 0 rfl) ?_
    refine lv_iconst (v := nI 1) hx hb dL_isStep_106 (by decide +kernel) ?_
    refine lv_icmp_ne (tgt := 134) hx hb dL_isStep_107 (by decide) (fun _ => ?_) (fun c0 => absurd c0 (by decide +kernel))
    refine lv_iload hx hb dL_isStep_134 (lv_at hl 0 rfl) ?_
    refine lv_iconst (v := nI 2) hx hb dL_isStep_136 (by decide +kernel) ?_
    refine lv_icmp_ne (tgt := 148) hx hb dL_isStep_137 (by decide) (fun c0 => absurd rfl c0) (fun _ => ?_)
    refine lv_iload_n hx hb dL_isStep_140 rfl (lv_at hl 2 rfl) ?_
    refine lv_iconst (v := nI 2) hx hb dL_isStep_141 (by decide +kernel) ?_
    refine kSi (As := [.int y, .int (nI 2)]) (rest := []) X hW (c_L_up l D k y 2 (by decide) (by decide)) yw_L_up lk_L_19 ⟨Nat.le_of_ble_eq_true rfl, Nat.le_of_ble_eq_true rfl⟩ rfl hl.1 rfl (Nat.le_of_ble_eq_true rfl) ⟨Nat.zero_le _, Nat.zero_le _⟩ dL_isStep_142 (fun H locs hW => ?_)
    obtain ⟨vv, e_vv⟩ : ∃ zq, upn y 2 = zq := ⟨_, rfl⟩
    have h_vv : vv < 2 := by rw [← e_vv]; exact upn_lt _ (by decide)
    refine k_top (y := nI vv) (congrArg nI e_vv) ?_
    refine lv_goto (tgt := 154) hx hb dL_isStep_145 (by decide) ?_
    refine lv_istore (lv' := [(8, .int (nI vv)), (7, .int (nI 2)), (4, .int z), (3, .int y), (1, .ref (B2 0)), (0, .ref (B 0))]) hx hb dL_isStep_154 hl (by decide) rfl (fun ls hl => ?_)
    exact step_set_tail X h g hG hT9 hC4 hj fin hW (wh := 2) (vv := vv) (by unfold setOk; omega) (lv_sub hl [0, 1, 4, 5] rfl)
  · refine lv_if_ne (tgt := 104) hx hb dL_isStep_90 (by decide) (fun _ => ?_) (fun c0 => absurd c0 (by decide +kernel))
    refine lv_iload hx hb dL_isStep_104 (lv_at hl 0 rfl) ?_
    refine lv_iconst (v := nI 1) hx hb dL_isStep_106 (by decide +kernel) ?_
    refine lv_icmp_ne (tgt := 134) hx hb dL_isStep_107 (by decide) (fun _ => ?_) (fun c0 => absurd c0 (by decide +kernel))
    refine lv_iload hx hb dL_isStep_134 (lv_at hl 0 rfl) ?_
    refine lv_iconst (v := nI 2) hx hb dL_isStep_136 (by decide +kernel) ?_
    refine lv_icmp_ne (tgt := 148) hx hb dL_isStep_137 (by decide) (fun _ => ?_) (fun c0 => absurd c0 (by decide +kernel))
    refine lv_iload_n hx hb dL_isStep_148 rfl (lv_at hl 2 rfl) ?_
    refine lv_bipush (v := nI 51) hx hb dL_isStep_149 (by decide +kernel) ?_
    refine kSi (As := [.int y, .int (nI 51)]) (rest := []) X hW (c_L_up l D k y 51 (by decide) (by decide)) yw_L_up lk_L_19 ⟨Nat.le_of_ble_eq_true rfl, Nat.le_of_ble_eq_true rfl⟩ rfl hl.1 rfl (Nat.le_of_ble_eq_true rfl) ⟨Nat.zero_le _, Nat.zero_le _⟩ dL_isStep_151 (fun H locs hW => ?_)
    obtain ⟨vv, e_vv⟩ : ∃ zq, upn y 51 = zq := ⟨_, rfl⟩
    have h_vv : vv < 51 := by rw [← e_vv]; exact upn_lt _ (by decide)
    refine k_top (y := nI vv) (congrArg nI e_vv) ?_
    refine lv_istore (lv' := [(8, .int (nI vv)), (7, .int (nI 3)), (4, .int z), (3, .int y), (1, .ref (B2 0)), (0, .ref (B 0))]) hx hb dL_isStep_154 hl (by decide) rfl (fun ls hl => ?_)
    exact step_set_tail X h g hG hT9 hC4 hj fin hW (wh := 3) (vv := vv) (by unfold setOk; omega) (lv_sub hl [0, 1, 4, 5] rfl)
end
