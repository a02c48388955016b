/-! areAlike() of the law: it answers 1 of two objects with the same card -/
theorem k_addsub (a b : Int32) : a + b - a = b := by
  rw [Int32.sub_eq_add_neg]
  have e : a + b + -a = b + (a + -a) := by ac_rfl
  rw [e, Int32.add_right_neg]
  exact Int32.add_zero _
theorem taken_would {u : CS} {T : Nat} (h : WL u T) (x : Int32) : m_X4_takenIn_r u u x < nI 1 ∨ nI 99 < m_X4_takenIn_r u u x ∨ 0 < m_X4_would_r u u (m_X4_takenIn_r u u x) (nI 0) := by
  have hM := h.1
  have hc := hM.2.1
  obtain ⟨v, ev⟩ : ∃ v, m_X4_takenIn_r u u x = v := ⟨_, rfl⟩
  rw [ev]
  unfold m_X4_takenIn_r at ev
  by_cases c1 : m_X0_hasFrame_r u x = 0
  · rw [if_pos c1] at ev
    rw [← ev]
    exact Or.inl (by decide)
  · rw [if_neg c1] at ev
    have hlt := (has_lt c1).1
    by_cases c2 : u 4 (tn x) = 0
    · rw [if_pos c2] at ev
      obtain ⟨j, ej⟩ : ∃ j, tn x = j := ⟨_, rfl⟩
      rw [ej] at ev c2 hlt
      rcases tk_spec (j := j) 500 1 (m_X0_copyFrom_u u u) with g | ⟨n, n1, n2, n3⟩
      · rw [g] at ev
        rw [← ev]
        exact Or.inl (by decide)
      · rw [n2] at ev
        by_cases c3 : 1 + n ≤ 99
        · refine Or.inr (Or.inr ?_)
          rw [← ev]
          have a1 : ¬ nI (1 + n) < nI 1 := by rw [nI_ltI (by omega) (by decide)]; omega
          have a2 : ¬ nI 99 < nI (1 + n) := by rw [nI_ltI (by decide) (by omega)]; omega
          have a3 : ¬ nI 0 < 0 := by decide
          have a4 : nI 0 ≤ nI 3 := by decide
          rw [m_X4_would_r, if_neg a1, if_neg a2, if_neg a3, if_pos a4, tn_of rfl (by omega)]
          have ha := would_run (u := u) (p := u) (t := 1 + n) hM
          rw [wd_same ha]
          show 0 < m_X0_total_r (lp_run (1 + n) u) (nI 7) - m_X0_total_r u (nI 7)
          obtain ⟨w1, m, m1, -, m3⟩ := WL_run (1 + n) h
          have hb := h.2.2.1.1
          obtain ⟨b, eb, b1, b2⟩ := hb
          have etb : tn (u 1 1) = b := tn_of eb (by omega)
          have mle : m ≤ 99 * 16 := by
            rw [etb] at m1
            exact Nat.le_trans m1 (Nat.mul_le_mul c3 b2)
          have k1 := tot_7 w1
          have k2 := tot_7 h
          have kc := (run_1 (1 + n) u).2
          rw [kc] at k1
          have e4 : lp_run (1 + n) u 4 j = nI 1 := by
            have z := (ha.2.2.2.1 j (by rw [kc]; exact hlt)).2.2
            rw [← z, Nat.add_comm]
            exact n3
          obtain ⟨r1, r2⟩ := run_k (1 + n) u
          have mono := fun p => nS_mono (p := p) r1 r2 (cn u)
          obtain ⟨⟨fl, hfl, efl⟩, -⟩ := (h.2.2.2.1 j hlt).1
          have eq : qof (u 2 j) = nI (fl % 3) := by rw [efl, qof_nI (by omega)]
          have n41 : ¬ u 4 j = nI 1 := by rw [c2]; decide
          have st : ∀ p, p < 3 → fl % 3 = p → nS u p (nI 1) (cn u) < nS (lp_run (1 + n) u) p (nI 1) (cn u) := fun p _ hp => (mono p).2 j hlt (by rw [eq, hp]) e4 n41
          have l0 := (mono 0).1
          have l1 := (mono 1).1
          have l2 := (mono 2).1
          have q0 := nS_le u 0 (nI 1) (cn u)
          have q1 := nS_le u 1 (nI 1) (cn u)
          have q2 := nS_le u 2 (nI 1) (cn u)
          have q3 := nS_le (lp_run (1 + n) u) 0 (nI 1) (cn u)
          have q4 := nS_le (lp_run (1 + n) u) 1 (nI 1) (cn u)
          have q5 := nS_le (lp_run (1 + n) u) 2 (nI 1) (cn u)
          have sum : nI (nS (lp_run (1 + n) u) 0 (nI 1) (cn u) + nS (lp_run (1 + n) u) 1 (nI 1) (cn u) + nS (lp_run (1 + n) u) 2 (nI 1) (cn u)) = nI ((nS u 0 (nI 1) (cn u) + nS u 1 (nI 1) (cn u) + nS u 2 (nI 1) (cn u)) + m) := by
            rw [← k1, ← nI_add, ← k2, tot_tk, tot_tk, m3]
          rw [nI_eq (by omega) (by omega)] at sum
          rw [tot_tk, tot_tk, m3, k_addsub]
          refine (nI_ltI (a := 0) (by decide) (by omega)).mpr ?_
          rcases (by omega : fl % 3 = 0 ∨ fl % 3 = 1 ∨ fl % 3 = 2) with e | e | e
          · have := st 0 (by decide) e; omega
          · have := st 1 (by decide) e; omega
          · have := st 2 (by decide) e; omega
        · refine Or.inr (Or.inl ?_)
          rw [← ev, nI_ltI (by decide) (by omega)]
          omega
    · rw [if_neg c2] at ev
      rw [← ev]
      exact Or.inl (by decide)
section
variable {p : Program} {l : Launch} {e : Env} {s : State} {m : MethodId} {args : Array Value} {below : List Frame} {meth : Method} {c : Code} {Ts : List Cond} {D : va_G} {k : Nat → ClassId} {P : Nat → Prop} {Q : State → Prop} {B B2 : Nat → Nat} {A0 A1 : Nat → Nat → Nat} {u : CS} {S : Nat → CS} {sv : Nat → Int32} {T : Nat}
set_option maxHeartbeats 4000000 in
set_option maxRecDepth 100000 in
theorem like_count (X : KX p s m args meth c cL_areAlike 8 Ts RL D k P) (hw : WL u T) (hT : T ≤ 9999) {x : Int32}
    (kk : ∀ (o q : OB), AT o u S sv → AT q u S sv → ∀ (H : Heap) (locs : List Loc) (ls : Array Slot), KW D P s (OW k B A0 o ++ OW k B2 A1 q) H locs → lv_has ls 8 [(3, .int (nI 1)), (2, .int x), (1, .ref (B2 0)), (0, .ref (B 0))] → W p l e (rmD 8) s m args below meth c H locs 0 0 Q (F0 m 86 ls [])) :
    ∀ (r i : Nat), i + r = 11 → ∀ (o q : OB), AT o u S sv → AT q u S sv → ∀ (H : Heap) (locs : List Loc) (ls : Array Slot), KW D P s (OW k B A0 o ++ OW k B2 A1 q) H locs → lv_has ls 8 [(4, .int (nI i)), (3, .int (nI 1)), (2, .int x), (1, .ref (B2 0)), (0, .ref (B 0))] → W p l e (rmD 8) s m args below meth c H locs 0 0 Q (F0 m 48 ls []) := by
  have hx := X.hx
  have hb := X.hb
  have hM := hw.1
  have hc := hM.2.1
  have hO := hw.okc
  intro r
  induction r with
  | zero =>
    intro i hi o q h g H locs ls hW hl
    have hi : i = 11 := by omega
    subst hi
    refine lv_iload hx hb dL_areAlike_48 (lv_at hl 0 rfl) ?_
    refine lv_bipush (v := nI 11) hx hb dL_areAlike_50 (by decide +kernel) ?_
    refine lv_icmp_ge (tgt := 86) hx hb dL_areAlike_52 (by decide) (fun _ => ?_) (fun c0 => absurd (Int32.le_refl _) c0)
    exact kk _ _ h g _ _ _ hW (lv_sub hl [1, 2, 3, 4] rfl)
  | succ r ih =>
    intro i hi o q h g H locs ls hW hl
    refine lv_iload hx hb dL_areAlike_48 (lv_at hl 0 rfl) ?_
    refine lv_bipush (v := nI 11) hx hb dL_areAlike_50 (by decide +kernel) ?_
    refine lv_icmp_ge (tgt := 86) hx hb dL_areAlike_52 (by decide) (fun c0 => absurd c0 (fun z => by rw [nI_leI (by decide) (by omega)] at z; omega)) (fun _ => ?_)
    refine lv_iload_n hx hb dL_areAlike_55 rfl (lv_at hl 1 rfl) ?_
    refine lv_if_eq (tgt := 78) hx hb dL_areAlike_56 (by decide) (fun c0 => absurd c0 (by decide +kernel)) (fun _ => ?_)
    refine lv_aload_n hx hb dL_areAlike_59 rfl (lv_at hl 4 rfl) ?_
    refine lv_iload hx hb dL_areAlike_60 (lv_at hl 0 rfl) ?_
    refine k_o (As := [.int (nI i)]) (rest := []) X hW (A_count h (j := i) (by omega)) yw_X4_count lk_L_24 ⟨Nat.le_of_ble_eq_true rfl, Nat.le_of_ble_eq_true rfl⟩ rfl hl.1 rfl (Nat.le_of_ble_eq_true rfl) ⟨Nat.zero_le _, Nat.zero_le _⟩ dL_areAlike_62 (fun H locs hW => ?_)
    refine lv_aload_n hx hb dL_areAlike_65 rfl (lv_at hl 3 rfl) ?_
    refine lv_iload hx hb dL_areAlike_66 (lv_at hl 0 rfl) ?_
    refine k_p (As := [.int (nI i)]) (rest := [.int (ctr u (nI i))]) X hW (A_count g (j := i) (by omega)) yw_X4_count lk_L_24 ⟨Nat.le_of_ble_eq_true rfl, Nat.le_of_ble_eq_true rfl⟩ rfl hl.1 rfl (Nat.le_of_ble_eq_true rfl) ⟨Nat.zero_le _, Nat.zero_le _⟩ dL_areAlike_68 (fun H locs hW => ?_)
    refine lv_icmp_ne (tgt := 78) hx hb dL_areAlike_71 (by decide) (fun c0 => absurd rfl c0) (fun _ => ?_)
    refine lv_iconst (v := nI 1) hx hb dL_areAlike_74 (by decide +kernel) ?_
    refine lv_goto (tgt := 79) hx hb dL_areAlike_75 (by decide) ?_
    refine lv_istore_n (lv' := [(3, .int (nI 1)), (4, .int (nI i)), (2, .int x), (1, .ref (B2 0)), (0, .ref (B 0))]) hx hb dL_areAlike_79 rfl hl (by decide) rfl (fun ls hl => ?_)
    refine lv_iinc (v := nI (i + 1)) (lv' := [(4, .int (nI (i + 1))), (3, .int (nI 1)), (2, .int x), (1, .ref (B2 0)), (0, .ref (B 0))]) hx hb dL_areAlike_80 hl (k := 1) rfl (k_inc _) (by decide) rfl (fun ls hl => ?_)
    refine lv_goto (tgt := 48) hx hb dL_areAlike_83 (by decide) ?_
    exact ih (i + 1) (by omega) _ _ h g _ _ _ hW (lv_sub hl [0, 1, 2, 3, 4] rfl)
set_option maxHeartbeats 4000000 in
set_option maxRecDepth 100000 in
theorem like_of (X : KX p s m args meth c cL_areAlike 8 Ts RL D k P) (hw : WL u T) (hT : T ≤ 9999) {x : Int32}
    (kk : ∀ (o q : OB), AT o u S sv → AT q u S sv → ∀ (H : Heap) (locs : List Loc) (ls : Array Slot), KW D P s (OW k B A0 o ++ OW k B2 A1 q) H locs → lv_has ls 8 [(3, .int (nI 1)), (2, .int x), (1, .ref (B2 0)), (0, .ref (B 0))] → W p l e (rmD 8) s m args below meth c H locs 0 0 Q (F0 m 162 ls [])) :
    ∀ (r i : Nat), i + r = 39 → ∀ (o q : OB), AT o u S sv → AT q u S sv → ∀ (H : Heap) (locs : List Loc) (ls : Array Slot), KW D P s (OW k B A0 o ++ OW k B2 A1 q) H locs → lv_has ls 8 [(4, .int (nI i)), (3, .int (nI 1)), (2, .int x), (1, .ref (B2 0)), (0, .ref (B 0))] → W p l e (rmD 8) s m args below meth c H locs 0 0 Q (F0 m 89 ls []) := by
  have hx := X.hx
  have hb := X.hb
  have hM := hw.1
  have hc := hM.2.1
  have hO := hw.okc
  intro r
  induction r with
  | zero =>
    intro i hi o q h g H locs ls hW hl
    have hi : i = 39 := by omega
    subst hi
    refine lv_iload hx hb dL_areAlike_89 (lv_at hl 0 rfl) ?_
    refine lv_bipush (v := nI 39) hx hb dL_areAlike_91 (by decide +kernel) ?_
    refine lv_icmp_ge (tgt := 162) hx hb dL_areAlike_93 (by decide) (fun _ => ?_) (fun c0 => absurd (Int32.le_refl _) c0)
    exact kk _ _ h g _ _ _ hW (lv_sub hl [1, 2, 3, 4] rfl)
  | succ r ih =>
    intro i hi o q h g H locs ls hW hl
    refine lv_iload hx hb dL_areAlike_89 (lv_at hl 0 rfl) ?_
    refine lv_bipush (v := nI 39) hx hb dL_areAlike_91 (by decide +kernel) ?_
    refine lv_icmp_ge (tgt := 162) hx hb dL_areAlike_93 (by decide) (fun c0 => absurd c0 (fun z => by rw [nI_leI (by decide) (by omega)] at z; omega)) (fun _ => ?_)
    refine lv_iload_n hx hb dL_areAlike_96 rfl (lv_at hl 1 rfl) ?_
    refine lv_if_eq (tgt := 154) hx hb dL_areAlike_97 (by decide) (fun c0 => absurd c0 (by decide +kernel)) (fun _ => ?_)
    refine lv_aload_n hx hb dL_areAlike_100 rfl (lv_at hl 4 rfl) ?_
    refine lv_iload hx hb dL_areAlike_101 (lv_at hl 0 rfl) ?_
    refine lv_bipush (v := nI 13) hx hb dL_areAlike_103 (by decide +kernel) ?_
    refine lv_idiv hx hb dL_areAlike_105 (by decide +kernel) ?_
    refine k_top (y := nI (i / 13)) (pk_div (by omega) (by decide) (by decide)) ?_
    refine lv_iload hx hb dL_areAlike_106 (lv_at hl 0 rfl) ?_
    refine lv_bipush (v := nI 13) hx hb dL_areAlike_108 (by decide +kernel) ?_
    refine lv_irem hx hb dL_areAlike_110 (by decide +kernel) ?_
    refine k_top (y := nI (i % 13)) (pk_rem (by omega) (by decide) (by decide)) ?_
    refine k_o (As := [.int (nI (i / 13)), .int (nI (i % 13))]) (rest := []) X hW (A_of h (nI (i / 13)) (nI (i % 13))) yw_X4_of lk_L_15 ⟨Nat.le_of_ble_eq_true rfl, Nat.le_of_ble_eq_true rfl⟩ rfl hl.1 rfl (Nat.le_of_ble_eq_true rfl) ⟨Nat.zero_le _, Nat.zero_le _⟩ dL_areAlike_111 (fun H locs hW => ?_)
    refine lv_aload_n hx hb dL_areAlike_114 rfl (lv_at hl 3 rfl) ?_
    refine lv_iload hx hb dL_areAlike_115 (lv_at hl 0 rfl) ?_
    refine lv_bipush (v := nI 13) hx hb dL_areAlike_117 (by decide +kernel) ?_
    refine lv_idiv hx hb dL_areAlike_119 (by decide +kernel) ?_
    refine k_top (y := nI (i / 13)) (pk_div (by omega) (by decide) (by decide)) ?_
    refine lv_iload hx hb dL_areAlike_120 (lv_at hl 0 rfl) ?_
    refine lv_bipush (v := nI 13) hx hb dL_areAlike_122 (by decide +kernel) ?_
    refine lv_irem hx hb dL_areAlike_124 (by decide +kernel) ?_
    refine k_top (y := nI (i % 13)) (pk_rem (by omega) (by decide) (by decide)) ?_
    refine k_p (As := [.int (nI (i / 13)), .int (nI (i % 13))]) (rest := [.int (m_X4_of_r u (nI (i / 13)) (nI (i % 13)))]) X hW (A_of g (nI (i / 13)) (nI (i % 13))) yw_X4_of lk_L_15 ⟨Nat.le_of_ble_eq_true rfl, Nat.le_of_ble_eq_true rfl⟩ rfl hl.1 rfl (Nat.le_of_ble_eq_true rfl) ⟨Nat.zero_le _, Nat.zero_le _⟩ dL_areAlike_125 (fun H locs hW => ?_)
    refine lv_icmp_ne (tgt := 154) hx hb dL_areAlike_128 (by decide) (fun c0 => absurd rfl c0) (fun _ => ?_)
    refine lv_aload_n hx hb dL_areAlike_131 rfl (lv_at hl 4 rfl) ?_
    refine lv_iload hx hb dL_areAlike_132 (lv_at hl 0 rfl) ?_
    refine lv_iconst (v := nI 3) hx hb dL_areAlike_134 (by decide +kernel) ?_
    refine lv_irem hx hb dL_areAlike_135 (by decide +kernel) ?_
    refine k_top (y := nI (i % 3)) (pk_rem (by omega) (by decide) (by decide)) ?_
    refine k_o (As := [.int (nI (i % 3))]) (rest := []) X hW (A_why h hM (nI (i % 3))) yw_X4_why lk_L_67 ⟨Nat.le_of_ble_eq_true rfl, Nat.le_of_ble_eq_true rfl⟩ rfl hl.1 rfl (Nat.le_of_ble_eq_true rfl) ⟨Nat.zero_le _, Nat.zero_le _⟩ dL_areAlike_136 (fun H locs hW => ?_)
    refine lv_aload_n hx hb dL_areAlike_139 rfl (lv_at hl 3 rfl) ?_
    refine lv_iload hx hb dL_areAlike_140 (lv_at hl 0 rfl) ?_
    refine lv_iconst (v := nI 3) hx hb dL_areAlike_142 (by decide +kernel) ?_
    refine lv_irem hx hb dL_areAlike_143 (by decide +kernel) ?_
    refine k_top (y := nI (i % 3)) (pk_rem (by omega) (by decide) (by decide)) ?_
    refine k_p (As := [.int (nI (i % 3))]) (rest := [.int (m_X4_why_r u (nI (i % 3)))]) X hW (A_why g hM (nI (i % 3))) yw_X4_why lk_L_67 ⟨Nat.le_of_ble_eq_true rfl, Nat.le_of_ble_eq_true rfl⟩ rfl hl.1 rfl (Nat.le_of_ble_eq_true rfl) ⟨Nat.zero_le _, Nat.zero_le _⟩ dL_areAlike_144 (fun H locs hW => ?_)
    refine lv_icmp_ne (tgt := 154) hx hb dL_areAlike_147 (by decide) (fun c0 => absurd rfl c0) (fun _ => ?_)
    refine lv_iconst (v := nI 1) hx hb dL_areAlike_150 (by decide +kernel) ?_
    refine lv_goto (tgt := 155) hx hb dL_areAlike_151 (by decide) ?_
    refine lv_istore_n (lv' := [(3, .int (nI 1)), (4, .int (nI i)), (2, .int x), (1, .ref (B2 0)), (0, .ref (B 0))]) hx hb dL_areAlike_155 rfl hl (by decide) rfl (fun ls hl => ?_)
    refine lv_iinc (v := nI (i + 1)) (lv' := [(4, .int (nI (i + 1))), (3, .int (nI 1)), (2, .int x), (1, .ref (B2 0)), (0, .ref (B 0))]) hx hb dL_areAlike_156 hl (k := 1) rfl (k_inc _) (by decide) rfl (fun ls hl => ?_)
    refine lv_goto (tgt := 89) hx hb dL_areAlike_159 (by decide) ?_
    exact ih (i + 1) (by omega) _ _ h g _ _ _ hW (lv_sub hl [0, 1, 2, 3, 4] rfl)
set_option maxHeartbeats 4000000 in
set_option maxRecDepth 100000 in
theorem like_frame (X : KX p s m args meth c cL_areAlike 8 Ts RL D k P) (hw : WL u T) (hT : T ≤ 9999) {x : Int32}
    (kk : ∀ (o q : OB), AT o u S sv → AT q u S sv → ∀ (H : Heap) (locs : List Loc) (ls : Array Slot), KW D P s (OW k B A0 o ++ OW k B2 A1 q) H locs → lv_has ls 8 [(3, .int (nI 1)), (2, .int x), (1, .ref (B2 0)), (0, .ref (B 0))] → W p l e (rmD 8) s m args below meth c H locs 0 0 Q (F0 m 220 ls [])) :
    ∀ (r i : Nat), i + r = 4 * cn u → ∀ (o q : OB), AT o u S sv → AT q u S sv → ∀ (H : Heap) (locs : List Loc) (ls : Array Slot), KW D P s (OW k B A0 o ++ OW k B2 A1 q) H locs → lv_has ls 8 [(4, .int (nI i)), (3, .int (nI 1)), (2, .int x), (1, .ref (B2 0)), (0, .ref (B 0))] → W p l e (rmD 8) s m args below meth c H locs 0 0 Q (F0 m 165 ls []) := by
  have hx := X.hx
  have hb := X.hb
  have hM := hw.1
  have hc := hM.2.1
  have hO := hw.okc
  intro r
  induction r with
  | zero =>
    intro i hi o q h g H locs ls hW hl
    have hi : i = 4 * cn u := by omega
    subst hi
    refine lv_iload hx hb dL_areAlike_165 (lv_at hl 0 rfl) ?_
    refine lv_iconst (v := nI 4) hx hb dL_areAlike_167 (by decide +kernel) ?_
    refine lv_aload_n hx hb dL_areAlike_168 rfl (lv_at hl 4 rfl) ?_
    refine lv_iconst (v := nI 1) hx hb dL_areAlike_169 (by decide +kernel) ?_
    refine k_o (As := [.int (nI 1)]) (rest := [.int (nI 4), .int (nI (4 * cn u))]) X hW (A_count h (j := 1) (by decide)) yw_X4_count lk_L_24 ⟨Nat.le_of_ble_eq_true rfl, Nat.le_of_ble_eq_true rfl⟩ rfl hl.1 rfl (Nat.le_of_ble_eq_true rfl) ⟨Nat.zero_le _, Nat.zero_le _⟩ dL_areAlike_170 (fun H locs hW => ?_)
    refine k_top (y := nI (cn u)) ((ctr_1 u).trans hM.1) ?_
    refine lv_imul hx hb dL_areAlike_173 ?_
    refine k_top (y := nI (4 * cn u)) (pk_mul _ _) ?_
    refine lv_icmp_ge (tgt := 220) hx hb dL_areAlike_174 (by decide) (fun _ => ?_) (fun c0 => absurd (Int32.le_refl _) c0)
    exact kk _ _ h g _ _ _ hW (lv_sub hl [1, 2, 3, 4] rfl)
  | succ r ih =>
    intro i hi o q h g H locs ls hW hl
    refine lv_iload hx hb dL_areAlike_165 (lv_at hl 0 rfl) ?_
    refine lv_iconst (v := nI 4) hx hb dL_areAlike_167 (by decide +kernel) ?_
    refine lv_aload_n hx hb dL_areAlike_168 rfl (lv_at hl 4 rfl) ?_
    refine lv_iconst (v := nI 1) hx hb dL_areAlike_169 (by decide +kernel) ?_
    refine k_o (As := [.int (nI 1)]) (rest := [.int (nI 4), .int (nI i)]) X hW (A_count h (j := 1) (by decide)) yw_X4_count lk_L_24 ⟨Nat.le_of_ble_eq_true rfl, Nat.le_of_ble_eq_true rfl⟩ rfl hl.1 rfl (Nat.le_of_ble_eq_true rfl) ⟨Nat.zero_le _, Nat.zero_le _⟩ dL_areAlike_170 (fun H locs hW => ?_)
    refine k_top (y := nI (cn u)) ((ctr_1 u).trans hM.1) ?_
    refine lv_imul hx hb dL_areAlike_173 ?_
    refine k_top (y := nI (4 * cn u)) (pk_mul _ _) ?_
    refine lv_icmp_ge (tgt := 220) hx hb dL_areAlike_174 (by decide) (fun c0 => absurd c0 (fun z => by rw [nI_leI (by omega) (by omega)] at z; omega)) (fun _ => ?_)
    refine lv_iload_n hx hb dL_areAlike_177 rfl (lv_at hl 1 rfl) ?_
    refine lv_if_eq (tgt := 212) hx hb dL_areAlike_178 (by decide) (fun c0 => absurd c0 (by decide +kernel)) (fun _ => ?_)
    refine lv_aload_n hx hb dL_areAlike_181 rfl (lv_at hl 4 rfl) ?_
    refine lv_iload hx hb dL_areAlike_182 (lv_at hl 0 rfl) ?_
    refine lv_iconst (v := nI 4) hx hb dL_areAlike_184 (by decide +kernel) ?_
    refine lv_idiv hx hb dL_areAlike_185 (by decide +kernel) ?_
    refine k_top (y := nI (i / 4)) (pk_div (by omega) (by decide) (by decide)) ?_
    refine lv_iload hx hb dL_areAlike_186 (lv_at hl 0 rfl) ?_
    refine lv_iconst (v := nI 4) hx hb dL_areAlike_188 (by decide +kernel) ?_
    refine lv_irem hx hb dL_areAlike_189 (by decide +kernel) ?_
    refine k_top (y := nI (i % 4)) (pk_rem (by omega) (by decide) (by decide)) ?_
    refine k_o (As := [.int (nI (i / 4)), .int (nI (i % 4))]) (rest := []) X hW (A_frame h hM (nI (i / 4)) (nI (i % 4))) yw_X4_frame lk_L_91 ⟨Nat.le_of_ble_eq_true rfl, Nat.le_of_ble_eq_true rfl⟩ rfl hl.1 rfl (Nat.le_of_ble_eq_true rfl) ⟨Nat.zero_le _, Nat.zero_le _⟩ dL_areAlike_190 (fun H locs hW => ?_)
    refine lv_aload_n hx hb dL_areAlike_193 rfl (lv_at hl 3 rfl) ?_
    refine lv_iload hx hb dL_areAlike_194 (lv_at hl 0 rfl) ?_
    refine lv_iconst (v := nI 4) hx hb dL_areAlike_196 (by decide +kernel) ?_
    refine lv_idiv hx hb dL_areAlike_197 (by decide +kernel) ?_
    refine k_top (y := nI (i / 4)) (pk_div (by omega) (by decide) (by decide)) ?_
    refine lv_iload hx hb dL_areAlike_198 (lv_at hl 0 rfl) ?_
    refine lv_iconst (v := nI 4) hx hb dL_areAlike_200 (by decide +kernel) ?_
    refine lv_irem hx hb dL_areAlike_201 (by decide +kernel) ?_
    refine k_top (y := nI (i % 4)) (pk_rem (by omega) (by decide) (by decide)) ?_
    refine k_p (As := [.int (nI (i / 4)), .int (nI (i % 4))]) (rest := [.int (m_X4_frame_r u (nI (i / 4)) (nI (i % 4)))]) X hW (A_frame g hM (nI (i / 4)) (nI (i % 4))) yw_X4_frame lk_L_91 ⟨Nat.le_of_ble_eq_true rfl, Nat.le_of_ble_eq_true rfl⟩ rfl hl.1 rfl (Nat.le_of_ble_eq_true rfl) ⟨Nat.zero_le _, Nat.zero_le _⟩ dL_areAlike_202 (fun H locs hW => ?_)
    refine lv_icmp_ne (tgt := 212) hx hb dL_areAlike_205 (by decide) (fun c0 => absurd rfl c0) (fun _ => ?_)
    refine lv_iconst (v := nI 1) hx hb dL_areAlike_208 (by decide +kernel) ?_
    refine lv_goto (tgt := 213) hx hb dL_areAlike_209 (by decide) ?_
    refine lv_istore_n (lv' := [(3, .int (nI 1)), (4, .int (nI i)), (2, .int x), (1, .ref (B2 0)), (0, .ref (B 0))]) hx hb dL_areAlike_213 rfl hl (by decide) rfl (fun ls hl => ?_)
    refine lv_iinc (v := nI (i + 1)) (lv' := [(4, .int (nI (i + 1))), (3, .int (nI 1)), (2, .int x), (1, .ref (B2 0)), (0, .ref (B 0))]) hx hb dL_areAlike_214 hl (k := 1) rfl (k_inc _) (by decide) rfl (fun ls hl => ?_)
    refine lv_goto (tgt := 165) hx hb dL_areAlike_217 (by decide) ?_
    exact ih (i + 1) (by omega) _ _ h g _ _ _ hW (lv_sub hl [0, 1, 2, 3, 4] rfl)
set_option maxHeartbeats 4000000 in
set_option maxRecDepth 100000 in
theorem like_best (X : KX p s m args meth c cL_areAlike 8 Ts RL D k P) (hw : WL u T) (hT : T ≤ 9999) {x : Int32} {gp : Nat}
    (kk : ∀ (o q : OB), AT o u S sv → AT q u S sv → ∀ (H : Heap) (locs : List Loc) (ls : Array Slot), KW D P s (OW k B A0 o ++ OW k B2 A1 q) H locs → lv_has ls 8 [(4, .int (nI gp)), (3, .int (nI 1)), (2, .int x), (1, .ref (B2 0)), (0, .ref (B 0))] → W p l e (rmD 8) s m args below meth c H locs 0 0 Q (F0 m 297 ls [])) :
    ∀ (r i : Nat), i + r = 3 → ∀ (o q : OB), AT o u S sv → AT q u S sv → ∀ (H : Heap) (locs : List Loc) (ls : Array Slot), KW D P s (OW k B A0 o ++ OW k B2 A1 q) H locs → lv_has ls 8 [(5, .int (nI i)), (4, .int (nI gp)), (3, .int (nI 1)), (2, .int x), (1, .ref (B2 0)), (0, .ref (B 0))] → W p l e (rmD 8) s m args below meth c H locs 0 0 Q (F0 m 233 ls []) := by
  have hx := X.hx
  have hb := X.hb
  have hM := hw.1
  have hc := hM.2.1
  have hO := hw.okc
  intro r
  induction r with
  | zero =>
    intro i hi o q h g H locs ls hW hl
    have hi : i = 3 := by omega
    subst hi
    refine lv_iload hx hb dL_areAlike_233 (lv_at hl 0 rfl) ?_
    refine lv_iconst (v := nI 3) hx hb dL_areAlike_235 (by decide +kernel) ?_
    refine lv_icmp_ge (tgt := 297) hx hb dL_areAlike_236 (by decide) (fun _ => ?_) (fun c0 => absurd (Int32.le_refl _) c0)
    exact kk _ _ h g _ _ _ hW (lv_sub hl [1, 2, 3, 4, 5] rfl)
  | succ r ih =>
    intro i hi o q h g H locs ls hW hl
    refine lv_iload hx hb dL_areAlike_233 (lv_at hl 0 rfl) ?_
    refine lv_iconst (v := nI 3) hx hb dL_areAlike_235 (by decide +kernel) ?_
    refine lv_icmp_ge (tgt := 297) hx hb dL_areAlike_236 (by decide) (fun c0 => absurd c0 (fun z => by rw [nI_leI (by decide) (by omega)] at z; omega)) (fun _ => ?_)
    refine lv_iload_n hx hb dL_areAlike_239 rfl (lv_at hl 2 rfl) ?_
    refine lv_if_eq (tgt := 289) hx hb dL_areAlike_240 (by decide) (fun c0 => absurd c0 (by decide +kernel)) (fun _ => ?_)
    refine lv_aload_n hx hb dL_areAlike_243 rfl (lv_at hl 5 rfl) ?_
    refine lv_iload hx hb dL_areAlike_244 (lv_at hl 0 rfl) ?_
    refine lv_iload hx hb dL_areAlike_246 (lv_at hl 1 rfl) ?_
    refine lv_iconst (v := nI 0) hx hb dL_areAlike_248 (by decide +kernel) ?_
    obtain ⟨o1, a1, m1⟩ := A_best (l := l) (D := D) (k := k) (B := B) (A := A0) h hO (j := i) (by omega) (nI gp) (nI 0)
    refine k_o (As := [.int (nI i), .int (nI gp), .int (nI 0)]) (rest := []) X hW m1 yw_X4_bestCount lk_L_94 ⟨Nat.le_of_ble_eq_true rfl, Nat.le_of_ble_eq_true rfl⟩ rfl hl.1 rfl (Nat.le_of_ble_eq_true rfl) ⟨Nat.zero_le _, Nat.zero_le _⟩ dL_areAlike_249 (fun H locs hW => ?_)
    refine lv_aload_n hx hb dL_areAlike_252 rfl (lv_at hl 4 rfl) ?_
    refine lv_iload hx hb dL_areAlike_253 (lv_at hl 0 rfl) ?_
    refine lv_iload hx hb dL_areAlike_255 (lv_at hl 1 rfl) ?_
    refine lv_iconst (v := nI 0) hx hb dL_areAlike_257 (by decide +kernel) ?_
    obtain ⟨o2, a2, m2⟩ := A_best (l := l) (D := D) (k := k) (B := B2) (A := A1) g hO (j := i) (by omega) (nI gp) (nI 0)
    refine k_p (As := [.int (nI i), .int (nI gp), .int (nI 0)]) (rest := [.int (m_X4_bestCount_r u u (nI i) (nI gp) (nI 0))]) X hW m2 yw_X4_bestCount lk_L_94 ⟨Nat.le_of_ble_eq_true rfl, Nat.le_of_ble_eq_true rfl⟩ rfl hl.1 rfl (Nat.le_of_ble_eq_true rfl) ⟨Nat.zero_le _, Nat.zero_le _⟩ dL_areAlike_258 (fun H locs hW => ?_)
    refine lv_icmp_ne (tgt := 289) hx hb dL_areAlike_261 (by decide) (fun c0 => absurd rfl c0) (fun _ => ?_)
    refine lv_aload_n hx hb dL_areAlike_264 rfl (lv_at hl 5 rfl) ?_
    refine lv_iload hx hb dL_areAlike_265 (lv_at hl 0 rfl) ?_
    refine lv_iload hx hb dL_areAlike_267 (lv_at hl 1 rfl) ?_
    refine lv_iconst (v := nI 1) hx hb dL_areAlike_269 (by decide +kernel) ?_
    obtain ⟨o3, a3, m3⟩ := A_best (l := l) (D := D) (k := k) (B := B) (A := A0) a1 hO (j := i) (by omega) (nI gp) (nI 1)
    refine k_o (As := [.int (nI i), .int (nI gp), .int (nI 1)]) (rest := []) X hW m3 yw_X4_bestCount lk_L_94 ⟨Nat.le_of_ble_eq_true rfl, Nat.le_of_ble_eq_true rfl⟩ rfl hl.1 rfl (Nat.le_of_ble_eq_true rfl) ⟨Nat.zero_le _, Nat.zero_le _⟩ dL_areAlike_270 (fun H locs hW => ?_)
    refine lv_aload_n hx hb dL_areAlike_273 rfl (lv_at hl 4 rfl) ?_
    refine lv_iload hx hb dL_areAlike_274 (lv_at hl 0 rfl) ?_
    refine lv_iload hx hb dL_areAlike_276 (lv_at hl 1 rfl) ?_
    refine lv_iconst (v := nI 1) hx hb dL_areAlike_278 (by decide +kernel) ?_
    obtain ⟨o4, a4, m4⟩ := A_best (l := l) (D := D) (k := k) (B := B2) (A := A1) a2 hO (j := i) (by omega) (nI gp) (nI 1)
    refine k_p (As := [.int (nI i), .int (nI gp), .int (nI 1)]) (rest := [.int (m_X4_bestCount_r u u (nI i) (nI gp) (nI 1))]) X hW m4 yw_X4_bestCount lk_L_94 ⟨Nat.le_of_ble_eq_true rfl, Nat.le_of_ble_eq_true rfl⟩ rfl hl.1 rfl (Nat.le_of_ble_eq_true rfl) ⟨Nat.zero_le _, Nat.zero_le _⟩ dL_areAlike_279 (fun H locs hW => ?_)
    refine lv_icmp_ne (tgt := 289) hx hb dL_areAlike_282 (by decide) (fun c0 => absurd rfl c0) (fun _ => ?_)
    refine lv_iconst (v := nI 1) hx hb dL_areAlike_285 (by decide +kernel) ?_
    refine lv_goto (tgt := 290) hx hb dL_areAlike_286 (by decide) ?_
    refine lv_istore_n (lv' := [(3, .int (nI 1)), (5, .int (nI i)), (4, .int (nI gp)), (2, .int x), (1, .ref (B2 0)), (0, .ref (B 0))]) hx hb dL_areAlike_290 rfl hl (by decide) rfl (fun ls hl => ?_)
    refine lv_iinc (v := nI (i + 1)) (lv' := [(5, .int (nI (i + 1))), (3, .int (nI 1)), (4, .int (nI gp)), (2, .int x), (1, .ref (B2 0)), (0, .ref (B 0))]) hx hb dL_areAlike_291 hl (k := 1) rfl (k_inc _) (by decide) rfl (fun ls hl => ?_)
    refine lv_goto (tgt := 233) hx hb dL_areAlike_294 (by decide) ?_
    exact ih (i + 1) (by omega) _ _ a3 a4 _ _ _ hW (lv_sub hl [0, 2, 1, 3, 4, 5] rfl)
set_option maxHeartbeats 4000000 in
set_option maxRecDepth 100000 in
theorem like_would (X : KX p s m args meth c cL_areAlike 8 Ts RL D k P) (hw : WL u T) (hT : T ≤ 9999) {x : Int32} {tk : Nat}
    (kk : ∀ (o q : OB), AT o u S sv → AT q u S sv → ∀ (H : Heap) (locs : List Loc) (ls : Array Slot), KW D P s (OW k B A0 o ++ OW k B2 A1 q) H locs → lv_has ls 8 [(5, .int (nI tk)), (3, .int (nI 1)), (2, .int x), (1, .ref (B2 0)), (0, .ref (B 0))] → W p l e (rmD 8) s m args below meth c H locs 0 0 Q (F0 m 353 ls [])) :
    ∀ (r i : Nat), i + r = 4 → ∀ (o q : OB), AT o u S sv → AT q u S sv → ∀ (H : Heap) (locs : List Loc) (ls : Array Slot), KW D P s (OW k B A0 o ++ OW k B2 A1 q) H locs → lv_has ls 8 [(6, .int (nI i)), (5, .int (nI tk)), (3, .int (nI 1)), (2, .int x), (1, .ref (B2 0)), (0, .ref (B 0))] → W p l e (rmD 8) s m args below meth c H locs 0 0 Q (F0 m 312 ls []) := by
  have hx := X.hx
  have hb := X.hb
  have hM := hw.1
  have hc := hM.2.1
  have hO := hw.okc
  intro r
  induction r with
  | zero =>
    intro i hi o q h g H locs ls hW hl
    have hi : i = 4 := by omega
    subst hi
    refine lv_iload hx hb dL_areAlike_312 (lv_at hl 0 rfl) ?_
    refine lv_iconst (v := nI 4) hx hb dL_areAlike_314 (by decide +kernel) ?_
    refine lv_icmp_ge (tgt := 353) hx hb dL_areAlike_315 (by decide) (fun _ => ?_) (fun c0 => absurd (Int32.le_refl _) c0)
    exact kk _ _ h g _ _ _ hW (lv_sub hl [1, 2, 3, 4, 5] rfl)
  | succ r ih =>
    intro i hi o q h g H locs ls hW hl
    refine lv_iload hx hb dL_areAlike_312 (lv_at hl 0 rfl) ?_
    refine lv_iconst (v := nI 4) hx hb dL_areAlike_314 (by decide +kernel) ?_
    refine lv_icmp_ge (tgt := 353) hx hb dL_areAlike_315 (by decide) (fun c0 => absurd c0 (fun z => by rw [nI_leI (by decide) (by omega)] at z; omega)) (fun _ => ?_)
    refine lv_iload_n hx hb dL_areAlike_318 rfl (lv_at hl 2 rfl) ?_
    refine lv_if_eq (tgt := 345) hx hb dL_areAlike_319 (by decide) (fun c0 => absurd c0 (by decide +kernel)) (fun _ => ?_)
    refine lv_aload_n hx hb dL_areAlike_322 rfl (lv_at hl 5 rfl) ?_
    refine lv_iload hx hb dL_areAlike_323 (lv_at hl 1 rfl) ?_
    refine lv_iload hx hb dL_areAlike_325 (lv_at hl 0 rfl) ?_
    obtain ⟨o5, a5, m5⟩ := A_would (l := l) (D := D) (k := k) (B := B) (A := A0) h hO (nI tk) (nI i)
    refine k_o (As := [.int (nI tk), .int (nI i)]) (rest := []) X hW m5 yw_X4_would lk_L_73 ⟨Nat.le_of_ble_eq_true rfl, Nat.le_of_ble_eq_true rfl⟩ rfl hl.1 rfl (Nat.le_of_ble_eq_true rfl) ⟨Nat.zero_le _, Nat.zero_le _⟩ dL_areAlike_327 (fun H locs hW => ?_)
    refine lv_aload_n hx hb dL_areAlike_330 rfl (lv_at hl 4 rfl) ?_
    refine lv_iload hx hb dL_areAlike_331 (lv_at hl 1 rfl) ?_
    refine lv_iload hx hb dL_areAlike_333 (lv_at hl 0 rfl) ?_
    obtain ⟨o6, a6, m6⟩ := A_would (l := l) (D := D) (k := k) (B := B2) (A := A1) g hO (nI tk) (nI i)
    refine k_p (As := [.int (nI tk), .int (nI i)]) (rest := [.int (m_X4_would_r u u (nI tk) (nI i))]) X hW m6 yw_X4_would lk_L_73 ⟨Nat.le_of_ble_eq_true rfl, Nat.le_of_ble_eq_true rfl⟩ rfl hl.1 rfl (Nat.le_of_ble_eq_true rfl) ⟨Nat.zero_le _, Nat.zero_le _⟩ dL_areAlike_335 (fun H locs hW => ?_)
    refine lv_icmp_ne (tgt := 345) hx hb dL_areAlike_338 (by decide) (fun c0 => absurd rfl c0) (fun _ => ?_)
    refine lv_iconst (v := nI 1) hx hb dL_areAlike_341 (by decide +kernel) ?_
    refine lv_goto (tgt := 346) hx hb dL_areAlike_342 (by decide) ?_
    refine lv_istore_n (lv' := [(3, .int (nI 1)), (6, .int (nI i)), (5, .int (nI tk)), (2, .int x), (1, .ref (B2 0)), (0, .ref (B 0))]) hx hb dL_areAlike_346 rfl hl (by decide) rfl (fun ls hl => ?_)
    refine lv_iinc (v := nI (i + 1)) (lv' := [(6, .int (nI (i + 1))), (3, .int (nI 1)), (5, .int (nI tk)), (2, .int x), (1, .ref (B2 0)), (0, .ref (B 0))]) hx hb dL_areAlike_347 hl (k := 1) rfl (k_inc _) (by decide) rfl (fun ls hl => ?_)
    refine lv_goto (tgt := 312) hx hb dL_areAlike_350 (by decide) ?_
    exact ih (i + 1) (by omega) _ _ a5 a6 _ _ _ hW (lv_sub hl [0, 2, 1, 3, 4, 5] rfl)
end
set_option maxHeartbeats 4000000 in
set_option maxRecDepth 100000 in
theorem A_alike {l : Launch} {D : va_G} {k : Nat → ClassId} {B B2 : Nat → Nat} {A0 A1 : Nat → Nat → Nat} {u : CS} {S : Nat → CS} {sv : Nat → Int32} {T : Nat} {o q : OB} (h : AT o u S sv) (g : AT q u S sv) (hw : WL u T) (hT : T ≤ 9999) (x : Int32) : mP l yL_areAlike (wsY yL_areAlike cL_areAlike 8 (some .boolean)) 8 D k [.ref (B 0), .ref (B2 0), .int x] (OW k B A0 o ++ OW k B2 A1 q) (fun _ => True) (nI 1) := by
  refine mP_intro rfl (Nat.le_of_ble_eq_true rfl) (Or.inr ⟨rfl, rfl⟩) ?_
  intro p e s m args below meth c A Q ls X hW hl hQ
  have hx := X.hx
  have hb := X.hb
  have hM := hw.1
  have hc := hM.2.1
  have hO := hw.okc
  have hl : lv_has ls 8 [(2, .int x), (1, .ref (B2 0)), (0, .ref (B 0))] := lv_sub hl [2, 1, 0] rfl
  refine lv_aload_n hx hb dL_areAlike_0 rfl (lv_at hl 2 rfl) ?_
  refine lv_iconst (v := nI 0) hx hb dL_areAlike_1 (by decide +kernel) ?_
  refine k_o (As := [.int (nI 0)]) (rest := []) X hW (A_row h (nI 0)) yw_X4_row lk_L_64 ⟨Nat.le_of_ble_eq_true rfl, Nat.le_of_ble_eq_true rfl⟩ rfl hl.1 rfl (Nat.le_of_ble_eq_true rfl) ⟨Nat.zero_le _, Nat.zero_le _⟩ dL_areAlike_2 (fun H locs hW => ?_)
  refine lv_aload_n hx hb dL_areAlike_5 rfl (lv_at hl 1 rfl) ?_
  refine lv_iconst (v := nI 0) hx hb dL_areAlike_6 (by decide +kernel) ?_
  refine k_p (As := [.int (nI 0)]) (rest := [.int (m_X4_row_r u (nI 0))]) X hW (A_row g (nI 0)) yw_X4_row lk_L_64 ⟨Nat.le_of_ble_eq_true rfl, Nat.le_of_ble_eq_true rfl⟩ rfl hl.1 rfl (Nat.le_of_ble_eq_true rfl) ⟨Nat.zero_le _, Nat.zero_le _⟩ dL_areAlike_7 (fun H locs hW => ?_)
  refine lv_icmp_ne (tgt := 43) hx hb dL_areAlike_10 (by decide) (fun c0 => absurd rfl c0) (fun _ => ?_)
  refine lv_aload_n hx hb dL_areAlike_13 rfl (lv_at hl 2 rfl) ?_
  refine lv_iconst (v := nI 1) hx hb dL_areAlike_14 (by decide +kernel) ?_
  refine k_o (As := [.int (nI 1)]) (rest := []) X hW (A_row h (nI 1)) yw_X4_row lk_L_64 ⟨Nat.le_of_ble_eq_true rfl, Nat.le_of_ble_eq_true rfl⟩ rfl hl.1 rfl (Nat.le_of_ble_eq_true rfl) ⟨Nat.zero_le _, Nat.zero_le _⟩ dL_areAlike_15 (fun H locs hW => ?_)
  refine lv_aload_n hx hb dL_areAlike_18 rfl (lv_at hl 1 rfl) ?_
  refine lv_iconst (v := nI 1) hx hb dL_areAlike_19 (by decide +kernel) ?_
  refine k_p (As := [.int (nI 1)]) (rest := [.int (m_X4_row_r u (nI 1))]) X hW (A_row g (nI 1)) yw_X4_row lk_L_64 ⟨Nat.le_of_ble_eq_true rfl, Nat.le_of_ble_eq_true rfl⟩ rfl hl.1 rfl (Nat.le_of_ble_eq_true rfl) ⟨Nat.zero_le _, Nat.zero_le _⟩ dL_areAlike_20 (fun H locs hW => ?_)
  refine lv_icmp_ne (tgt := 43) hx hb dL_areAlike_23 (by decide) (fun c0 => absurd rfl c0) (fun _ => ?_)
  refine lv_aload_n hx hb dL_areAlike_26 rfl (lv_at hl 2 rfl) ?_
  refine lv_iconst (v := nI 2) hx hb dL_areAlike_27 (by decide +kernel) ?_
  refine k_o (As := [.int (nI 2)]) (rest := []) X hW (A_row h (nI 2)) yw_X4_row lk_L_64 ⟨Nat.le_of_ble_eq_true rfl, Nat.le_of_ble_eq_true rfl⟩ rfl hl.1 rfl (Nat.le_of_ble_eq_true rfl) ⟨Nat.zero_le _, Nat.zero_le _⟩ dL_areAlike_28 (fun H locs hW => ?_)
  refine lv_aload_n hx hb dL_areAlike_31 rfl (lv_at hl 1 rfl) ?_
  refine lv_iconst (v := nI 2) hx hb dL_areAlike_32 (by decide +kernel) ?_
  refine k_p (As := [.int (nI 2)]) (rest := [.int (m_X4_row_r u (nI 2))]) X hW (A_row g (nI 2)) yw_X4_row lk_L_64 ⟨Nat.le_of_ble_eq_true rfl, Nat.le_of_ble_eq_true rfl⟩ rfl hl.1 rfl (Nat.le_of_ble_eq_true rfl) ⟨Nat.zero_le _, Nat.zero_le _⟩ dL_areAlike_33 (fun H locs hW => ?_)
  refine lv_icmp_ne (tgt := 43) hx hb dL_areAlike_36 (by decide) (fun c0 => absurd rfl c0) (fun _ => ?_)
  refine lv_iconst (v := nI 1) hx hb dL_areAlike_39 (by decide +kernel) ?_
  refine lv_goto (tgt := 44) hx hb dL_areAlike_40 (by decide) ?_
  refine lv_istore_n (lv' := [(3, .int (nI 1)), (2, .int x), (1, .ref (B2 0)), (0, .ref (B 0))]) hx hb dL_areAlike_44 rfl hl (by decide) rfl (fun ls hl => ?_)
  refine lv_iconst (v := nI 0) hx hb dL_areAlike_45 (by decide +kernel) ?_
  refine lv_istore (lv' := [(4, .int (nI 0)), (3, .int (nI 1)), (2, .int x), (1, .ref (B2 0)), (0, .ref (B 0))]) hx hb dL_areAlike_46 hl (by decide) rfl (fun ls hl => ?_)
  refine like_count X hw hT ?_ 11 0 rfl _ _ h g _ _ _ hW (lv_sub hl [0, 1, 2, 3, 4] rfl)
  intro o q h g H locs ls hW hl
  refine lv_iconst (v := nI 0) hx hb dL_areAlike_86 (by decide +kernel) ?_
  refine lv_istore (lv' := [(4, .int (nI 0)), (3, .int (nI 1)), (2, .int x), (1, .ref (B2 0)), (0, .ref (B 0))]) hx hb dL_areAlike_87 hl (by decide) rfl (fun ls hl => ?_)
  refine like_of X hw hT ?_ 39 0 rfl _ _ h g _ _ _ hW (lv_sub hl [0, 1, 2, 3, 4] rfl)
  intro o q h g H locs ls hW hl
  refine lv_iconst (v := nI 0) hx hb dL_areAlike_162 (by decide +kernel) ?_
  refine lv_istore (lv' := [(4, .int (nI 0)), (3, .int (nI 1)), (2, .int x), (1, .ref (B2 0)), (0, .ref (B 0))]) hx hb dL_areAlike_163 hl (by decide) rfl (fun ls hl => ?_)
  refine like_frame X hw hT ?_ (4 * cn u) 0 (Nat.zero_add _) _ _ h g _ _ _ hW (lv_sub hl [0, 1, 2, 3, 4] rfl)
  intro o q h g H locs ls hW hl
  refine lv_iconst (v := nI 1) hx hb dL_areAlike_220 (by decide +kernel) ?_
  refine lv_iload_n hx hb dL_areAlike_221 rfl (lv_at hl 1 rfl) ?_
  refine lv_bipush (v := nI 20) hx hb dL_areAlike_222 (by decide +kernel) ?_
  refine kSi (As := [.int x, .int (nI 20)]) (rest := [.int (nI 1)]) X hW (c_L_up l D k x 20 (by decide) (by decide)) yw_L_up lk_L_19 ⟨Nat.le_of_ble_eq_true rfl, Nat.le_of_ble_eq_true rfl⟩ rfl hl.1 rfl (Nat.le_of_ble_eq_true rfl) ⟨Nat.zero_le _, Nat.zero_le _⟩ dL_areAlike_224 (fun H locs hW => ?_)
  obtain ⟨gp, e_gp⟩ : ∃ zq, upn x 20 = zq := ⟨_, rfl⟩
  have h_gp : gp < 20 := by rw [← e_gp]; exact upn_lt _ (by decide)
  refine k_top (y := nI gp) (congrArg nI e_gp) ?_
  refine lv_iadd hx hb dL_areAlike_227 ?_
  refine k_top (y := nI (1 + gp)) (nI_add _ _) ?_
  refine lv_istore (lv' := [(4, .int (nI (1 + gp))), (3, .int (nI 1)), (2, .int x), (1, .ref (B2 0)), (0, .ref (B 0))]) hx hb dL_areAlike_228 hl (by decide) rfl (fun ls hl => ?_)
  refine lv_iconst (v := nI 0) hx hb dL_areAlike_230 (by decide +kernel) ?_
  refine lv_istore (lv' := [(5, .int (nI 0)), (4, .int (nI (1 + gp))), (3, .int (nI 1)), (2, .int x), (1, .ref (B2 0)), (0, .ref (B 0))]) hx hb dL_areAlike_231 hl (by decide) rfl (fun ls hl => ?_)
  refine like_best X hw hT ?_ 3 0 rfl _ _ h g _ _ _ hW (lv_sub hl [0, 1, 2, 3, 4, 5] rfl)
  intro o q h g H locs ls hW hl
  refine lv_iconst (v := nI 1) hx hb dL_areAlike_297 (by decide +kernel) ?_
  refine lv_iload_n hx hb dL_areAlike_298 rfl (lv_at hl 2 rfl) ?_
  refine lv_iconst (v := nI 5) hx hb dL_areAlike_299 (by decide +kernel) ?_
  refine lv_ishr hx hb dL_areAlike_300 ?_
  refine lv_bipush (v := nI 99) hx hb dL_areAlike_301 (by decide +kernel) ?_
  refine kSi (As := [.int (x >>> ((nI 5) &&& 31)), .int (nI 99)]) (rest := [.int (nI 1)]) X hW (c_L_up l D k (x >>> ((nI 5) &&& 31)) 99 (by decide) (by decide)) yw_L_up lk_L_19 ⟨Nat.le_of_ble_eq_true rfl, Nat.le_of_ble_eq_true rfl⟩ rfl hl.1 rfl (Nat.le_of_ble_eq_true rfl) ⟨Nat.zero_le _, Nat.zero_le _⟩ dL_areAlike_303 (fun H locs hW => ?_)
  obtain ⟨tk, e_tk⟩ : ∃ zq, upn (x >>> ((nI 5) &&& 31)) 99 = zq := ⟨_, rfl⟩
  have h_tk : tk < 99 := by rw [← e_tk]; exact upn_lt _ (by decide)
  refine k_top (y := nI tk) (congrArg nI e_tk) ?_
  refine lv_iadd hx hb dL_areAlike_306 ?_
  refine k_top (y := nI (1 + tk)) (nI_add _ _) ?_
  refine lv_istore (lv' := [(5, .int (nI (1 + tk))), (4, .int (nI (1 + gp))), (3, .int (nI 1)), (2, .int x), (1, .ref (B2 0)), (0, .ref (B 0))]) hx hb dL_areAlike_307 hl (by decide) rfl (fun ls hl => ?_)
  refine lv_iconst (v := nI 0) hx hb dL_areAlike_309 (by decide +kernel) ?_
  refine lv_istore (lv' := [(6, .int (nI 0)), (5, .int (nI (1 + tk))), (4, .int (nI (1 + gp))), (3, .int (nI 1)), (2, .int x), (1, .ref (B2 0)), (0, .ref (B 0))]) hx hb dL_areAlike_310 hl (by decide) rfl (fun ls hl => ?_)
  refine like_would X hw hT ?_ 4 0 rfl _ _ h g _ _ _ hW (lv_sub hl [0, 1, 3, 4, 5, 6] rfl)
  intro o q h g H locs ls hW hl
  refine lv_iload_n hx hb dL_areAlike_353 rfl (lv_at hl 2 rfl) ?_
  refine lv_iconst (v := nI 3) hx hb dL_areAlike_354 (by decide +kernel) ?_
  refine lv_ishr hx hb dL_areAlike_355 ?_
  refine lv_aload_n hx hb dL_areAlike_356 rfl (lv_at hl 4 rfl) ?_
  refine lv_iconst (v := nI 1) hx hb dL_areAlike_357 (by decide +kernel) ?_
  refine k_o (As := [.int (nI 1)]) (rest := [.int (x >>> ((nI 3) &&& 31))]) X hW (A_count h (j := 1) (by decide)) yw_X4_count lk_L_24 ⟨Nat.le_of_ble_eq_true rfl, Nat.le_of_ble_eq_true rfl⟩ rfl hl.1 rfl (Nat.le_of_ble_eq_true rfl) ⟨Nat.zero_le _, Nat.zero_le _⟩ dL_areAlike_358 (fun H locs hW => ?_)
  refine k_top (y := nI (cn u)) ((ctr_1 u).trans hM.1) ?_
  refine lv_iconst (v := nI 1) hx hb dL_areAlike_361 (by decide +kernel) ?_
  refine lv_iadd hx hb dL_areAlike_362 ?_
  refine k_top (y := nI (cn u + 1)) (nI_add _ _) ?_
  refine kSi (As := [.int (x >>> ((nI 3) &&& 31)), .int (nI (cn u + 1))]) (rest := []) X hW (c_L_up l D k (x >>> ((nI 3) &&& 31)) (cn u + 1) (by omega) (by omega)) yw_L_up lk_L_19 ⟨Nat.le_of_ble_eq_true rfl, Nat.le_of_ble_eq_true rfl⟩ rfl hl.1 rfl (Nat.le_of_ble_eq_true rfl) ⟨Nat.zero_le _, Nat.zero_le _⟩ dL_areAlike_363 (fun H locs hW => ?_)
  obtain ⟨fr, e_fr⟩ : ∃ zq, upn (x >>> ((nI 3) &&& 31)) (cn u + 1) = zq := ⟨_, rfl⟩
  have h_fr : fr < cn u + 1 := by rw [← e_fr]; exact upn_lt _ (by omega)
  refine k_top (y := nI fr) (congrArg nI e_fr) ?_
  refine lv_istore (lv' := [(6, .int (nI fr)), (5, .int (nI (1 + tk))), (3, .int (nI 1)), (2, .int x), (1, .ref (B2 0)), (0, .ref (B 0))]) hx hb dL_areAlike_366 hl (by decide) rfl (fun ls hl => ?_)
  refine lv_aload_n hx hb dL_areAlike_368 rfl (lv_at hl 5 rfl) ?_
  refine lv_iload hx hb dL_areAlike_369 (lv_at hl 0 rfl) ?_
  obtain ⟨o1, a1, m1⟩ := A_takenIn (l := l) (D := D) (k := k) (B := B) (A := A0) h hO (nI fr)
  refine k_o (As := [.int (nI fr)]) (rest := []) X hW m1 yw_X4_takenIn lk_L_97 ⟨Nat.le_of_ble_eq_true rfl, Nat.le_of_ble_eq_true rfl⟩ rfl hl.1 rfl (Nat.le_of_ble_eq_true rfl) ⟨Nat.zero_le _, Nat.zero_le _⟩ dL_areAlike_371 (fun H locs hW => ?_)
  refine lv_istore (lv' := [(7, .int (m_X4_takenIn_r u u (nI fr))), (6, .int (nI fr)), (5, .int (nI (1 + tk))), (3, .int (nI 1)), (2, .int x), (1, .ref (B2 0)), (0, .ref (B 0))]) hx hb dL_areAlike_374 hl (by decide) rfl (fun ls hl => ?_)
  refine lv_iload_n hx hb dL_areAlike_376 rfl (lv_at hl 3 rfl) ?_
  refine lv_if_eq (tgt := 418) hx hb dL_areAlike_377 (by decide) (fun c0 => absurd c0 (by decide +kernel)) (fun _ => ?_)
  refine lv_iload hx hb dL_areAlike_380 (lv_at hl 0 rfl) ?_
  refine lv_aload_n hx hb dL_areAlike_382 rfl (lv_at hl 5 rfl) ?_
  refine lv_iload hx hb dL_areAlike_383 (lv_at hl 1 rfl) ?_
  obtain ⟨o2, a2, m2⟩ := A_takenIn (l := l) (D := D) (k := k) (B := B2) (A := A1) g hO (nI fr)
  refine k_p (As := [.int (nI fr)]) (rest := [.int (m_X4_takenIn_r u u (nI fr))]) X hW m2 yw_X4_takenIn lk_L_97 ⟨Nat.le_of_ble_eq_true rfl, Nat.le_of_ble_eq_true rfl⟩ rfl hl.1 rfl (Nat.le_of_ble_eq_true rfl) ⟨Nat.zero_le _, Nat.zero_le _⟩ dL_areAlike_385 (fun H locs hW => ?_)
  refine lv_icmp_ne (tgt := 418) hx hb dL_areAlike_388 (by decide) (fun c0 => absurd rfl c0) (fun _ => ?_)
  refine lv_iload hx hb dL_areAlike_391 (lv_at hl 0 rfl) ?_
  refine lv_iconst (v := nI 1) hx hb dL_areAlike_393 (by decide +kernel) ?_
  refine lv_icmp_lt (tgt := 414) hx hb dL_areAlike_394 (by decide) (fun d1 => ?_) (fun d1 => ?_)
  · refine lv_iconst (v := nI 1) hx hb dL_areAlike_414 (by decide +kernel) ?_
    refine lv_goto (tgt := 419) hx hb dL_areAlike_415 (by decide) ?_
    exact hQ _ _ _ _ _ _ hW dL_areAlike_419 rfl trivial
  · refine lv_iload hx hb dL_areAlike_397 (lv_at hl 0 rfl) ?_
    refine lv_bipush (v := nI 99) hx hb dL_areAlike_399 (by decide +kernel) ?_
    refine lv_icmp_gt (tgt := 414) hx hb dL_areAlike_401 (by decide) (fun d2 => ?_) (fun d2 => ?_)
    · refine lv_iconst (v := nI 1) hx hb dL_areAlike_414 (by decide +kernel) ?_
      refine lv_goto (tgt := 419) hx hb dL_areAlike_415 (by decide) ?_
      exact hQ _ _ _ _ _ _ hW dL_areAlike_419 rfl trivial
    · have d3 : 0 < m_X4_would_r u u (m_X4_takenIn_r u u (nI fr)) (nI 0) := by
        rcases taken_would hw (nI fr) with z | z | z
        · exact absurd z d1
        · exact absurd z d2
        · exact z
      refine lv_aload_n hx hb dL_areAlike_404 rfl (lv_at hl 6 rfl) ?_
      refine lv_iload hx hb dL_areAlike_405 (lv_at hl 0 rfl) ?_
      refine lv_iconst (v := nI 0) hx hb dL_areAlike_407 (by decide +kernel) ?_
      obtain ⟨o3, a3, m3⟩ := A_would (l := l) (D := D) (k := k) (B := B) (A := A0) a1 hO (m_X4_takenIn_r u u (nI fr)) (nI 0)
      refine k_o (As := [.int (m_X4_takenIn_r u u (nI fr)), .int (nI 0)]) (rest := []) X hW m3 yw_X4_would lk_L_73 ⟨Nat.le_of_ble_eq_true rfl, Nat.le_of_ble_eq_true rfl⟩ rfl hl.1 rfl (Nat.le_of_ble_eq_true rfl) ⟨Nat.zero_le _, Nat.zero_le _⟩ dL_areAlike_408 (fun H locs hW => ?_)
      refine lv_if_le (tgt := 418) hx hb dL_areAlike_411 (by decide) (fun c0 => absurd c0 (Int32.not_le.mpr d3)) (fun _ => ?_)
      refine lv_iconst (v := nI 1) hx hb dL_areAlike_414 (by decide +kernel) ?_
      refine lv_goto (tgt := 419) hx hb dL_areAlike_415 (by decide) ?_
      exact hQ _ _ _ _ _ _ hW dL_areAlike_419 rfl trivial
