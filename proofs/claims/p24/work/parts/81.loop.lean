/-! THE LAW'S LOOP: steps of the two objects, a look at the first one, and at both at the end -/
set_option maxHeartbeats 1000000 in
set_option maxRecDepth 100000 in
theorem law_end {p : Program} {l : Launch} {e : Env} {s : State} {m : MethodId} {below : List Frame} {meth : Method} {c : Code} {D : va_G} {k : Nat → ClassId} {b L : Nat} {xs : Nat → Int32} (hL : L ≤ 260) (C0 : lw_At p s m meth c b L xs) (X : KX p s m #[Value.ref b] meth c code 5 lw_tbl RL D k (fun q => s.heap.size ≤ q)) (B : Nat → Nat) (A0 : Nat → Nat → Nat) (B2 : Nat → Nat) (A1 : Nat → Nat → Nat) {o q : OB} {u : CS} {S : Nat → CS} {sv : Nat → Int32} {t : Nat} (h : AT o u S sv) (g : AT q u S sv) (hw : WL u t) (ht : t ≤ 9999) {H : Heap} {locs : List Loc} {ls : Array Slot} (hW : KW D (fun q => s.heap.size ≤ q) s (OW k B A0 o ++ OW k B2 A1 q) H locs) (hl : lv_has ls 5 [(3, .int (nI 1)), (2, .ref (B2 0)), (1, .ref (B 0)), (0, .ref b)]) : W p l e room_1 s m #[Value.ref b] below meth c H locs 600000 7302250 (lw_Z below #[Value.ref b] s) (F0 m 82 ls []) := by
  obtain ⟨hx, hb, hr, hml, hown, hts, hX, hbl, hlocks, hgv⟩ := C0
  have hbP : ¬ (fun q : Nat => s.heap.size ≤ q) b := Nat.not_le.mpr hbl
  refine lv_iload_n hx hb dL_law_82 rfl (lv_at hl 0 rfl) ?_
  refine lv_if_eq (tgt := 111) hx hb dL_law_83 (by decide) (fun c0 => absurd c0 (by decide +kernel)) (fun _ => ?_)
  refine lv_aload_n hx hb dL_law_86 rfl (lv_at hl 2 rfl) ?_
  refine kSw (As := [.ref (B 0)]) (rest := []) X hW (A_isWell h hw (by omega)) yw_L_isWell lk_L_109 ⟨Nat.le_of_ble_eq_true rfl, Nat.le_of_ble_eq_true rfl⟩ (wr := OW k B2 A1 q) (w' := OW k B A0 o ++ OW k B2 A1 q) List.perm_append_comm List.perm_append_comm rfl hl.1 rfl (Nat.le_of_ble_eq_true rfl) ⟨Nat.le_of_ble_eq_true rfl, Nat.le_of_ble_eq_true rfl⟩ dL_law_87 (fun H locs hW => ?_)
  refine lv_if_eq (tgt := 111) hx hb dL_law_90 (by decide) (fun c0 => absurd c0 (by decide +kernel)) (fun _ => ?_)
  refine lv_aload_n hx hb dL_law_93 rfl (lv_at hl 2 rfl) ?_
  refine lv_aload_n hx hb dL_law_94 rfl (lv_at hl 1 rfl) ?_
  refine lv_aload_n hx hb dL_law_95 rfl (lv_at hl 3 rfl) ?_
  refine lv_bipush (v := nI 44) hx hb dL_law_96 (by decide +kernel) ?_
  refine kCell (rest := [.ref (B2 0), .ref (B 0)]) X hW hX hbl hbP (by omega) (j := 44) (by omega) lk_L_101 ⟨Nat.le_of_ble_eq_true rfl, Nat.le_of_ble_eq_true rfl⟩ hl.1 rfl (Nat.le_of_ble_eq_true rfl) ⟨Nat.le_of_ble_eq_true rfl, Nat.le_of_ble_eq_true rfl⟩ dL_law_98 (fun H locs hW => ?_)
  refine kSp (As := [.ref (B 0), .ref (B2 0), .int (cellv xs L 44)]) (rest := []) X hW (A_alike h g hw ht _) yw_L_areAlike lk_L_113 ⟨Nat.le_of_ble_eq_true rfl, Nat.le_of_ble_eq_true rfl⟩ (wr := []) (List.Perm.refl _) rfl hl.1 rfl (Nat.le_of_ble_eq_true rfl) ⟨Nat.le_of_ble_eq_true rfl, Nat.le_of_ble_eq_true rfl⟩ dL_law_101 (fun w H locs _ hW => ?_)
  refine lv_if_eq (tgt := 111) hx hb dL_law_104 (by decide) (fun c0 => absurd c0 (by decide +kernel)) (fun _ => ?_)
  refine lv_iconst (v := 1) hx hb dL_law_107 (by decide) ?_
  refine lv_goto (tgt := 112) hx hb dL_law_108 (by decide) ?_
  refine va_forget (fun q hq => hW.2.2.2.2 q hq) ?_
  exact lw_ret hx hb hr hlocks dL_law_112
set_option maxHeartbeats 1000000 in
set_option maxRecDepth 100000 in
theorem law_loop {p : Program} {l : Launch} {e : Env} {s : State} {m : MethodId} {below : List Frame} {meth : Method} {c : Code} {D : va_G} {k : Nat → ClassId} {b L : Nat} {xs : Nat → Int32} (hL : L ≤ 260) (C0 : lw_At p s m meth c b L xs) (X : KX p s m #[Value.ref b] meth c code 5 lw_tbl RL D k (fun q => s.heap.size ≤ q)) (B : Nat → Nat) (A0 : Nat → Nat → Nat) (B2 : Nat → Nat) (A1 : Nat → Nat → Nat) : ∀ (r i : Nat), i + r = 44 → ∀ (o q : OB) (u : CS) (S : Nat → CS) (sv : Nat → Int32), AT o u S sv → AT q u S sv → GD u S sv (99 * i) (5 * i) → ∀ (H : Heap) (locs : List Loc) (ls : Array Slot), KW D (fun q => s.heap.size ≤ q) s (OW k B A0 o ++ OW k B2 A1 q) H locs → lv_has ls 5 [(4, .int (nI i)), (3, .int (nI 1)), (2, .ref (B2 0)), (1, .ref (B 0)), (0, .ref b)] → W p l e room_1 s m #[Value.ref b] below meth c H locs 600000 7302250 (lw_Z below #[Value.ref b] s) (F0 m 21 ls []) := by
  have C1 := C0
  obtain ⟨hx, hb, hr, hml, hown, hts, hX, hbl, hlocks, hgv⟩ := C0
  have hbP : ¬ (fun q : Nat => s.heap.size ≤ q) b := Nat.not_le.mpr hbl
  intro r
  induction r with
  | zero =>
    intro i hi o q u S sv h g hG H locs ls hW hl
    have hi : i = 44 := by omega
    subst hi
    obtain ⟨⟨⟨t, ht, hw⟩, -⟩, -⟩ := hG
    refine lv_iload hx hb dL_law_21 (lv_at hl 0 rfl) ?_
    refine lv_bipush (v := nI 44) hx hb dL_law_23 (by decide +kernel) ?_
    refine lv_icmp_ge (tgt := 82) hx hb dL_law_25 (by decide) (fun _ => ?_) (fun c0 => absurd (Int32.le_refl _) c0)
    exact law_end hL C1 X B A0 B2 A1 h g hw (by omega) hW (lv_sub hl [1, 2, 3, 4] rfl)
  | succ r ih =>
    intro i hi o q u S sv h g hG H locs ls hW hl
    refine lv_iload hx hb dL_law_21 (lv_at hl 0 rfl) ?_
    refine lv_bipush (v := nI 44) hx hb dL_law_23 (by decide +kernel) ?_
    refine lv_icmp_ge (tgt := 82) hx hb dL_law_25 (by decide) (fun c0 => absurd c0 (fun z => by rw [nI_leI (by decide) (by omega)] at z; omega)) (fun _ => ?_)
    refine lv_iload_n hx hb dL_law_28 rfl (lv_at hl 1 rfl) ?_
    refine lv_if_eq (tgt := 82) hx hb dL_law_29 (by decide) (fun c0 => absurd c0 (by decide +kernel)) (fun _ => ?_)
    refine lv_aload_n hx hb dL_law_32 rfl (lv_at hl 3 rfl) ?_
    refine lv_aload_n hx hb dL_law_33 rfl (lv_at hl 2 rfl) ?_
    refine lv_aload_n hx hb dL_law_34 rfl (lv_at hl 4 rfl) ?_
    refine lv_iload hx hb dL_law_35 (lv_at hl 0 rfl) ?_
    refine kCell (rest := [.ref (B2 0), .ref (B 0)]) X hW hX hbl hbP (by omega) (j := i) (by omega) lk_L_101 ⟨Nat.le_of_ble_eq_true rfl, Nat.le_of_ble_eq_true rfl⟩ hl.1 rfl (Nat.le_of_ble_eq_true rfl) ⟨Nat.le_of_ble_eq_true rfl, Nat.le_of_ble_eq_true rfl⟩ dL_law_37 (fun H locs hW => ?_)
    refine lv_aload_n hx hb dL_law_40 rfl (lv_at hl 4 rfl) ?_
    refine lv_iload hx hb dL_law_41 (lv_at hl 0 rfl) ?_
    refine lv_iconst (v := nI 1) hx hb dL_law_43 (by decide +kernel) ?_
    refine lv_iadd hx hb dL_law_44 ?_
    refine k_top (y := nI (i + 1)) (nI_add _ _) ?_
    refine kCell (rest := [.int (cellv xs L i), .ref (B2 0), .ref (B 0)]) X hW hX hbl hbP (by omega) (j := i + 1) (by omega) lk_L_101 ⟨Nat.le_of_ble_eq_true rfl, Nat.le_of_ble_eq_true rfl⟩ hl.1 rfl (Nat.le_of_ble_eq_true rfl) ⟨Nat.le_of_ble_eq_true rfl, Nat.le_of_ble_eq_true rfl⟩ dL_law_45 (fun H locs hW => ?_)
    refine lv_iconst (v := nI 2) hx hb dL_law_48 (by decide +kernel) ?_
    refine lv_ishr hx hb dL_law_49 ?_
    refine kSp (As := [.ref (B 0), .ref (B2 0), .int (cellv xs L i), .int ((cellv xs L (i + 1)) >>> ((nI 2) &&& 31))]) (rest := []) X hW (A_step h g hG (by omega) (by omega) _ _) yw_L_isStep lk_L_105 ⟨Nat.le_of_ble_eq_true rfl, Nat.le_of_ble_eq_true rfl⟩ (wr := []) (List.Perm.refl _) rfl hl.1 rfl (Nat.le_of_ble_eq_true rfl) ⟨Nat.le_of_ble_eq_true rfl, Nat.le_of_ble_eq_true rfl⟩ dL_law_50 (fun w H locs hP hW => ?_)
    obtain ⟨o, q, u, S, sv, h, g, hG, rfl⟩ := hP
    have hW : KW D (fun q => s.heap.size ≤ q) s (OW k B A0 o ++ OW k B2 A1 q) H locs := hW
    have hG : GD u S sv (99 * (i + 1)) (5 * (i + 1)) := hG
    obtain ⟨⟨⟨t, ht, hw⟩, -⟩, -⟩ := id hG
    refine lv_if_eq (tgt := 74) hx hb dL_law_53 (by decide) (fun c0 => absurd c0 (by decide +kernel)) (fun _ => ?_)
    refine lv_iload hx hb dL_law_56 (lv_at hl 0 rfl) ?_
    refine lv_iconst (v := nI 4) hx hb dL_law_58 (by decide +kernel) ?_
    refine lv_irem hx hb dL_law_59 (by decide +kernel) ?_
    refine k_top (y := nI (i % 4)) (pk_rem (by omega) (by decide) (by decide)) ?_
    refine lv_if_gt (tgt := 70) hx hb dL_law_60 (by decide) (fun cr => ?_) (fun cr => ?_)
    · refine lv_iconst (v := nI 1) hx hb dL_law_70 (by decide +kernel) ?_
      refine lv_goto (tgt := 75) hx hb dL_law_71 (by decide) ?_
      refine lv_istore_n (lv' := [(3, .int (nI 1)), (4, .int (nI i)), (2, .ref (B2 0)), (1, .ref (B 0)), (0, .ref b)]) hx hb dL_law_75 rfl hl (by decide) rfl (fun ls hl => ?_)
      refine lv_iinc (v := nI (i + 1)) (lv' := [(4, .int (nI (i + 1))), (3, .int (nI 1)), (2, .ref (B2 0)), (1, .ref (B 0)), (0, .ref b)]) hx hb dL_law_76 hl (k := 1) rfl (k_inc _) (by decide) rfl (fun ls hl => ?_)
      refine lv_goto (tgt := 21) hx hb dL_law_79 (by decide) ?_
      exact ih (i + 1) (by omega) _ _ _ _ _ h g hG _ _ _ hW (lv_sub hl [0, 1, 2, 3, 4] rfl)
    · refine lv_aload_n hx hb dL_law_63 rfl (lv_at hl 3 rfl) ?_
      refine kSw (As := [.ref (B 0)]) (rest := []) X hW (A_isWell h hw (by omega)) yw_L_isWell lk_L_109 ⟨Nat.le_of_ble_eq_true rfl, Nat.le_of_ble_eq_true rfl⟩ (wr := OW k B2 A1 q) (w' := OW k B A0 o ++ OW k B2 A1 q) List.perm_append_comm List.perm_append_comm rfl hl.1 rfl (Nat.le_of_ble_eq_true rfl) ⟨Nat.le_of_ble_eq_true rfl, Nat.le_of_ble_eq_true rfl⟩ dL_law_64 (fun H locs hW => ?_)
      refine lv_if_eq (tgt := 74) hx hb dL_law_67 (by decide) (fun c0 => absurd c0 (by decide +kernel)) (fun _ => ?_)
      refine lv_iconst (v := nI 1) hx hb dL_law_70 (by decide +kernel) ?_
      refine lv_goto (tgt := 75) hx hb dL_law_71 (by decide) ?_
      refine lv_istore_n (lv' := [(3, .int (nI 1)), (4, .int (nI i)), (2, .ref (B2 0)), (1, .ref (B 0)), (0, .ref b)]) hx hb dL_law_75 rfl hl (by decide) rfl (fun ls hl => ?_)
      refine lv_iinc (v := nI (i + 1)) (lv' := [(4, .int (nI (i + 1))), (3, .int (nI 1)), (2, .ref (B2 0)), (1, .ref (B 0)), (0, .ref b)]) hx hb dL_law_76 hl (k := 1) rfl (k_inc _) (by decide) rfl (fun ls hl => ?_)
      refine lv_goto (tgt := 21) hx hb dL_law_79 (by decide) ?_
      exact ih (i + 1) (by omega) _ _ _ _ _ h g hG _ _ _ hW (lv_sub hl [0, 1, 2, 3, 4] rfl)
theorem df4 : ∀ j, j < 6 → defaultValue (tyX4 j) = vp_V [.null, .null, .null, .null, .null, .null] j := by
  intro j hj
  rcases (by omega : j = 0 ∨ j = 1 ∨ j = 2 ∨ j = 3 ∨ j = 4 ∨ j = 5) with rfl | rfl | rfl | rfl | rfl | rfl <;> rfl
abbrev OB0 : OB := (fun _ => iC, 0, 0, oQ, iP, oQ)
theorem AT_0 : AT OB0 iC (fun _ => iC) oQ := ⟨by decide, by decide, (by unfold PD; decide +kernel : PD iP), rfl, fun i hi => rfl, rfl⟩
theorem GD_0 : GD iC (fun _ => iC) oQ 0 0 := ⟨⟨⟨0, Nat.le_refl _, WL_init⟩, Nat.le_of_eq cn_iC⟩, fun i hi => Or.inl (by decide +kernel : (0 : Int32) = nI 0)⟩
set_option maxHeartbeats 4000000 in
set_option maxRecDepth 100000 in
/-- from the entry, for every script of at most 260 ints, the law comes to its end with true -/
theorem whole_start {p : Program} {e : Env} {s : State} {m : MethodId} {below : List Frame} {meth : Method} {c : Code} (l : Launch) (hflags : l.flags = flags0) {b L : Nat} {xs : Nat → Int32} (hL : L ≤ 260) (C0 : lw_At p s m meth c b L xs) : W p l e room_1 s m #[Value.ref b] below meth c s.heap [] 0 0 (lw_Z below #[Value.ref b] s) (entryFrame m ([Value.ref b] : List Value).toArray 5) := by
  obtain ⟨D, k, X⟩ := lw_KX C0
  have hx := X.hx
  have hb := X.hb
  have hW : KW D (fun q => s.heap.size ≤ q) s [] s.heap [] := ⟨fun k q h => by simp at h, ⟨fun i j p q h => by simp at h, fun k q h => by simp at h⟩, va_S.rf⟩
  have hl := lv_entry ([.ref b]) (n := 5) (Nat.le_of_ble_eq_true rfl)
  rw [lg_entry_eq]
  generalize (lg_sl ([.ref b]) ++ List.replicate (5 - (lg_sl ([.ref b])).length) Slot.unset).toArray = ls at hl ⊢
  have hl : lv_has ls 5 [(0, .ref b)] := hl
  refine k_new (ci := 4) X hW inG4 tyX4 tyX4_ok rfl cl_L_10 mk_X4 yi_X4_init.2.2 df4 ⟨Nat.le_of_ble_eq_true rfl, Nat.le_of_ble_eq_true rfl⟩ dL_law_0 (fun q4 H hW => ?_)
  refine lv_dup hx hb dL_law_3 rfl ?_
  refine kIv (rest := [.ref q4]) X hW (c_X4_init l D k q4) yI_X4 lk_L_100 ⟨Nat.le_of_ble_eq_true rfl, Nat.le_of_ble_eq_true rfl⟩ (wr := []) (List.Perm.refl _) hl.1 (Nat.le_of_ble_eq_true rfl) ⟨Nat.le_of_ble_eq_true rfl, Nat.le_of_ble_eq_true rfl⟩ dL_law_4 (fun w1 H locs hw1 hW1 => ?_)
  obtain ⟨B, A0, rfl, hp⟩ := hw1
  have hW : KW D (fun q => s.heap.size ≤ q) s (OW k B A0 OB0) H locs := hW1.perm hp
  refine W.widen (k := 1000) (n := 100000) (Nat.le_of_ble_eq_true rfl) (Nat.le_of_ble_eq_true rfl) ?_
  refine lv_astore_n (lv' := [(1, .ref (B 0)), (0, .ref b)]) hx hb dL_law_7 rfl hl (by decide) rfl (fun ls hl => ?_)
  refine k_new (ci := 4) X hW inG4 tyX4 tyX4_ok rfl cl_L_10 mk_X4 yi_X4_init.2.2 df4 ⟨Nat.le_of_ble_eq_true rfl, Nat.le_of_ble_eq_true rfl⟩ dL_law_8 (fun q5 H hW => ?_)
  refine lv_dup hx hb dL_law_11 rfl ?_
  refine kIv (rest := [.ref q5]) X hW (c_X4_init l D k q5) yI_X4 lk_L_100 ⟨Nat.le_of_ble_eq_true rfl, Nat.le_of_ble_eq_true rfl⟩ (wr := OW k B A0 OB0) (List.Perm.refl _) hl.1 (Nat.le_of_ble_eq_true rfl) ⟨Nat.le_of_ble_eq_true rfl, Nat.le_of_ble_eq_true rfl⟩ dL_law_12 (fun w2 H locs hw2 hW2 => ?_)
  obtain ⟨B2, A1, rfl, hp2⟩ := hw2
  have hW : KW D (fun q => s.heap.size ≤ q) s (OW k B A0 OB0 ++ OW k B2 A1 OB0) H locs := hW2.perm (hp2.append_left _)
  refine W.widen (k := 600000) (n := 7302250) (Nat.le_of_ble_eq_true rfl) (Nat.le_of_ble_eq_true rfl) ?_
  refine lv_astore_n (lv' := [(2, .ref (B2 0)), (1, .ref (B 0)), (0, .ref b)]) hx hb dL_law_15 rfl hl (by decide) rfl (fun ls hl => ?_)
  refine lv_iconst (v := nI 1) hx hb dL_law_16 (by decide +kernel) ?_
  refine lv_istore_n (lv' := [(3, .int (nI 1)), (2, .ref (B2 0)), (1, .ref (B 0)), (0, .ref b)]) hx hb dL_law_17 rfl hl (by decide) rfl (fun ls hl => ?_)
  refine lv_iconst (v := nI 0) hx hb dL_law_18 (by decide +kernel) ?_
  refine lv_istore (lv' := [(4, .int (nI 0)), (3, .int (nI 1)), (2, .ref (B2 0)), (1, .ref (B 0)), (0, .ref b)]) hx hb dL_law_19 hl (by decide) rfl (fun ls hl => ?_)
  exact law_loop hL C0 X B A0 B2 A1 44 0 rfl _ _ _ _ _ AT_0 AT_0 GD_0 _ _ _ hW hl
