theorem df0 (b : Nat) : ∀ j, j < 8 → defaultValue (tyX0 j) = vp_V [.null, .null, .int (nI 0), .int (nI 0), .null, .null, .null, .null] j := by
  intro j hj
  rcases (by omega : j = 0 ∨ j = 1 ∨ j = 2 ∨ j = 3 ∨ j = 4 ∨ j = 5 ∨ j = 6 ∨ j = 7) with rfl | rfl | rfl | rfl | rfl | rfl | rfl | rfl <;> rfl
abbrev hisO (o s : Nat) (nx sz : Int32) : Nat × va_E := (o, .inr (1, [.ref s, .int nx, .int sz]))
abbrev arqC (k : Nat → ClassId) (s n : Nat) (f : Nat → Option Nat) : Nat × va_E := (s, .inl (k 4, n, .inr (.inr (.inr (.inr f)))))
set_option maxHeartbeats 4000000 in
set_option maxRecDepth 100000 in
theorem c_X1_init (l : Launch) (D : va_G) (k : Nat → ClassId) (b : Nat) : mC l yX1_init (wsY yX1_init cX1_init 2 none) 3 71 11585 D k [.ref b] [(b, .inr (1, [.null, .int (nI 0), .int (nI 0)]))] (fun w => ∃ (s : Nat) (a : Nat → Nat → Nat), w = [hisO b s (nI 0) (nI 0), arqC k s 7 (fun j => some (a j 0))] ++ (cardW k (a 0) iC ++ (cardW k (a 1) iC ++ (cardW k (a 2) iC ++ (cardW k (a 3) iC ++ (cardW k (a 4) iC ++ (cardW k (a 5) iC ++ (cardW k (a 6) iC)))))))) := by
  refine mC_intro rfl rfl (Nat.le_of_ble_eq_true rfl) ?_
  intro p e s m args below meth c A Q ls X hW hl hmn hQ
  have hx := X.hx
  have hb := X.hb
  have hl : lv_has ls 2 [(0, .ref b)] := hl
  refine lv_aload_n hx hb dX1_init_0 rfl (lv_at hl 0 rfl) ?_
  refine k_obj X lk_X1_5 hl.1 ⟨Nat.le_of_ble_eq_true rfl, Nat.le_of_ble_eq_true rfl⟩ dX1_init_1 ?_
  refine lv_aload_n hx hb dX1_init_4 rfl (lv_at hl 0 rfl) ?_
  refine lv_bipush (v := nI 7) hx hb dX1_init_5 (by decide +kernel) ?_
  refine k_newq X hW cl_X1_11 X.hG.2.2.1 4 rfl rfl (by decide) ⟨Nat.le_of_ble_eq_true rfl, Nat.le_of_ble_eq_true rfl⟩ dX1_init_7 (fun s H hW => ?_)
  refine k_putF X hW hmn inG1 rfl tyX1_ok nmX1 0 (by decide) fl_X1_13 rfl rfl 0 rfl rfl rfl (Nat.le_of_ble_eq_true rfl) dX1_init_10 (w' := [hisO b s (nI 0) (nI 0), arqC k s 7 (fun _ => none)]) rfl (fun H locs hW => ?_)
  refine lv_aload_n hx hb dX1_init_13 rfl (lv_at hl 0 rfl) ?_
  refine lv_iconst (v := nI 0) hx hb dX1_init_14 (by decide +kernel) ?_
  refine k_put X hW inG1 rfl tyX1_ok nmX1 1 (by decide) fl_X1_17 rfl rfl 0 rfl rfl rfl (Nat.le_of_ble_eq_true rfl) dX1_init_15 (w' := [hisO b s (nI 0) (nI 0), arqC k s 7 (fun _ => none)]) rfl (fun H locs hW => ?_)
  refine lv_aload_n hx hb dX1_init_18 rfl (lv_at hl 0 rfl) ?_
  refine lv_iconst (v := nI 0) hx hb dX1_init_19 (by decide +kernel) ?_
  refine k_put X hW inG1 rfl tyX1_ok nmX1 2 (by decide) fl_X1_21 rfl rfl 0 rfl rfl rfl (Nat.le_of_ble_eq_true rfl) dX1_init_20 (w' := [hisO b s (nI 0) (nI 0), arqC k s 7 (fun _ => none)]) rfl (fun H locs hW => ?_)
  refine lv_iconst (v := nI 0) hx hb dX1_init_23 (by decide +kernel) ?_
  refine lv_istore_n (lv' := [(1, .int (nI 0)), (0, .ref b)]) hx hb dX1_init_24 rfl hl (by decide) rfl (fun ls hl => ?_)
  refine lv_iload_n hx hb dX1_init_25 rfl (lv_at hl 0 rfl) ?_
  refine lv_bipush (v := nI 7) hx hb dX1_init_26 (by decide +kernel) ?_
  refine lv_icmp_ge (tgt := 50) hx hb dX1_init_28 (by decide) (fun c => absurd c (by decide +kernel)) (fun _ => ?_)
  refine lv_aload_n hx hb dX1_init_31 rfl (lv_at hl 1 rfl) ?_
  refine k_get X hW inG1 rfl 0 (by decide) fl_X1_13 rfl 0 rfl (v := .ref s) rfl dX1_init_32 ?_
  refine lv_iload_n hx hb dX1_init_35 rfl (lv_at hl 0 rfl) ?_
  refine k_new (ci := 0) X hW inG0 tyX0 tyX0_ok rfl cl_X1_11 mk_X0 yi_X0_init.2.2 (df0 0) ⟨Nat.le_of_ble_eq_true rfl, Nat.le_of_ble_eq_true rfl⟩ dX1_init_36 (fun q0 H hW => ?_)
  refine lv_dup hx hb dX1_init_39 rfl ?_
  refine kIN (rest := [.ref q0, .int (nI 0), .ref s]) X hW (c_X0_init l D k q0) yI_X0 lkn_X1_24 ⟨Nat.le_of_ble_eq_true rfl, Nat.le_of_ble_eq_true rfl⟩ (wr := [hisO b s (nI 0) (nI 0), arqC k s 7 (fun _ => none)]) (List.Perm.refl _) hl.1 (Nat.le_of_ble_eq_true rfl) ⟨Nat.le_of_ble_eq_true rfl, Nat.le_of_ble_eq_true rfl⟩ dX1_init_40 (fun w1 H locs hw1 hW => ?_)
  obtain ⟨a0, rfl, rfl⟩ := hw1
  refine k_aast X hW 1 4 2 0 rfl rfl rfl rfl rfl (by decide) (by decide) dX1_init_43 (w' := [hisO b s (nI 0) (nI 0), arqC k s 7 (va_up (fun _ => none) 0 (some (a0 0)))] ++ cardW k a0 iC) rfl (fun H locs hW => ?_)
  refine lv_iinc (v := nI 1) (lv' := [(1, .int (nI 1)), (0, .ref b)]) hx hb dX1_init_44 hl (k := 0) rfl (k_inc _) (by decide) rfl (fun ls hl => ?_)
  refine lv_goto (tgt := 25) hx hb dX1_init_47 (by decide) ?_
  refine lv_iload_n hx hb dX1_init_25 rfl (lv_at hl 0 rfl) ?_
  refine lv_bipush (v := nI 7) hx hb dX1_init_26 (by decide +kernel) ?_
  refine lv_icmp_ge (tgt := 50) hx hb dX1_init_28 (by decide) (fun c => absurd c (by decide +kernel)) (fun _ => ?_)
  refine lv_aload_n hx hb dX1_init_31 rfl (lv_at hl 1 rfl) ?_
  refine k_get X hW inG1 rfl 0 (by decide) fl_X1_13 rfl 0 rfl (v := .ref s) rfl dX1_init_32 ?_
  refine lv_iload_n hx hb dX1_init_35 rfl (lv_at hl 0 rfl) ?_
  refine k_new (ci := 0) X hW inG0 tyX0 tyX0_ok rfl cl_X1_11 mk_X0 yi_X0_init.2.2 (df0 0) ⟨Nat.le_of_ble_eq_true rfl, Nat.le_of_ble_eq_true rfl⟩ dX1_init_36 (fun q1 H hW => ?_)
  refine lv_dup hx hb dX1_init_39 rfl ?_
  refine kIN (rest := [.ref q1, .int (nI 1), .ref s]) X hW (c_X0_init l D k q1) yI_X0 lkn_X1_24 ⟨Nat.le_of_ble_eq_true rfl, Nat.le_of_ble_eq_true rfl⟩ (wr := [hisO b s (nI 0) (nI 0), arqC k s 7 (va_up (fun _ => none) 0 (some (a0 0)))] ++ cardW k a0 iC) (List.Perm.refl _) hl.1 (Nat.le_of_ble_eq_true rfl) ⟨Nat.le_of_ble_eq_true rfl, Nat.le_of_ble_eq_true rfl⟩ dX1_init_40 (fun w1 H locs hw1 hW => ?_)
  obtain ⟨a1, rfl, rfl⟩ := hw1
  refine k_aast X hW 1 4 12 0 rfl rfl rfl rfl rfl (by decide) (by decide) dX1_init_43 (w' := [hisO b s (nI 0) (nI 0), arqC k s 7 (va_up (va_up (fun _ => none) 0 (some (a0 0))) 1 (some (a1 0)))] ++ cardW k a0 iC ++ cardW k a1 iC) rfl (fun H locs hW => ?_)
  refine lv_iinc (v := nI 2) (lv' := [(1, .int (nI 2)), (0, .ref b)]) hx hb dX1_init_44 hl (k := 0) rfl (k_inc _) (by decide) rfl (fun ls hl => ?_)
  refine lv_goto (tgt := 25) hx hb dX1_init_47 (by decide) ?_
  refine lv_iload_n hx hb dX1_init_25 rfl (lv_at hl 0 rfl) ?_
  refine lv_bipush (v := nI 7) hx hb dX1_init_26 (by decide +kernel) ?_
  refine lv_icmp_ge (tgt := 50) hx hb dX1_init_28 (by decide) (fun c => absurd c (by decide +kernel)) (fun _ => ?_)
  refine lv_aload_n hx hb dX1_init_31 rfl (lv_at hl 1 rfl) ?_
  refine k_get X hW inG1 rfl 0 (by decide) fl_X1_13 rfl 0 rfl (v := .ref s) rfl dX1_init_32 ?_
  refine lv_iload_n hx hb dX1_init_35 rfl (lv_at hl 0 rfl) ?_
  refine k_new (ci := 0) X hW inG0 tyX0 tyX0_ok rfl cl_X1_11 mk_X0 yi_X0_init.2.2 (df0 0) ⟨Nat.le_of_ble_eq_true rfl, Nat.le_of_ble_eq_true rfl⟩ dX1_init_36 (fun q2 H hW => ?_)
  refine lv_dup hx hb dX1_init_39 rfl ?_
  refine kIN (rest := [.ref q2, .int (nI 2), .ref s]) X hW (c_X0_init l D k q2) yI_X0 lkn_X1_24 ⟨Nat.le_of_ble_eq_true rfl, Nat.le_of_ble_eq_true rfl⟩ (wr := [hisO b s (nI 0) (nI 0), arqC k s 7 (va_up (va_up (fun _ => none) 0 (some (a0 0))) 1 (some (a1 0)))] ++ cardW k a0 iC ++ cardW k a1 iC) (List.Perm.refl _) hl.1 (Nat.le_of_ble_eq_true rfl) ⟨Nat.le_of_ble_eq_true rfl, Nat.le_of_ble_eq_true rfl⟩ dX1_init_40 (fun w1 H locs hw1 hW => ?_)
  obtain ⟨a2, rfl, rfl⟩ := hw1
  refine k_aast X hW 1 4 22 0 rfl rfl rfl rfl rfl (by decide) (by decide) dX1_init_43 (w' := [hisO b s (nI 0) (nI 0), arqC k s 7 (va_up (va_up (va_up (fun _ => none) 0 (some (a0 0))) 1 (some (a1 0))) 2 (some (a2 0)))] ++ cardW k a0 iC ++ cardW k a1 iC ++ cardW k a2 iC) rfl (fun H locs hW => ?_)
  refine lv_iinc (v := nI 3) (lv' := [(1, .int (nI 3)), (0, .ref b)]) hx hb dX1_init_44 hl (k := 0) rfl (k_inc _) (by decide) rfl (fun ls hl => ?_)
  refine lv_goto (tgt := 25) hx hb dX1_init_47 (by decide) ?_
  refine lv_iload_n hx hb dX1_init_25 rfl (lv_at hl 0 rfl) ?_
  refine lv_bipush (v := nI 7) hx hb dX1_init_26 (by decide +kernel) ?_
  refine lv_icmp_ge (tgt := 50) hx hb dX1_init_28 (by decide) (fun c => absurd c (by decide +kernel)) (fun _ => ?_)
  refine lv_aload_n hx hb dX1_init_31 rfl (lv_at hl 1 rfl) ?_
  refine k_get X hW inG1 rfl 0 (by decide) fl_X1_13 rfl 0 rfl (v := .ref s) rfl dX1_init_32 ?_
  refine lv_iload_n hx hb dX1_init_35 rfl (lv_at hl 0 rfl) ?_
  refine k_new (ci := 0) X hW inG0 tyX0 tyX0_ok rfl cl_X1_11 mk_X0 yi_X0_init.2.2 (df0 0) ⟨Nat.le_of_ble_eq_true rfl, Nat.le_of_ble_eq_true rfl⟩ dX1_init_36 (fun q3 H hW => ?_)
  refine lv_dup hx hb dX1_init_39 rfl ?_
  refine kIN (rest := [.ref q3, .int (nI 3), .ref s]) X hW (c_X0_init l D k q3) yI_X0 lkn_X1_24 ⟨Nat.le_of_ble_eq_true rfl, Nat.le_of_ble_eq_true rfl⟩ (wr := [hisO b s (nI 0) (nI 0), arqC k s 7 (va_up (va_up (va_up (fun _ => none) 0 (some (a0 0))) 1 (some (a1 0))) 2 (some (a2 0)))] ++ cardW k a0 iC ++ cardW k a1 iC ++ cardW k a2 iC) (List.Perm.refl _) hl.1 (Nat.le_of_ble_eq_true rfl) ⟨Nat.le_of_ble_eq_true rfl, Nat.le_of_ble_eq_true rfl⟩ dX1_init_40 (fun w1 H locs hw1 hW => ?_)
  obtain ⟨a3, rfl, rfl⟩ := hw1
  refine k_aast X hW 1 4 32 0 rfl rfl rfl rfl rfl (by decide) (by decide) dX1_init_43 (w' := [hisO b s (nI 0) (nI 0), arqC k s 7 (va_up (va_up (va_up (va_up (fun _ => none) 0 (some (a0 0))) 1 (some (a1 0))) 2 (some (a2 0))) 3 (some (a3 0)))] ++ cardW k a0 iC ++ cardW k a1 iC ++ cardW k a2 iC ++ cardW k a3 iC) rfl (fun H locs hW => ?_)
  refine lv_iinc (v := nI 4) (lv' := [(1, .int (nI 4)), (0, .ref b)]) hx hb dX1_init_44 hl (k := 0) rfl (k_inc _) (by decide) rfl (fun ls hl => ?_)
  refine lv_goto (tgt := 25) hx hb dX1_init_47 (by decide) ?_
  refine lv_iload_n hx hb dX1_init_25 rfl (lv_at hl 0 rfl) ?_
  refine lv_bipush (v := nI 7) hx hb dX1_init_26 (by decide +kernel) ?_
  refine lv_icmp_ge (tgt := 50) hx hb dX1_init_28 (by decide) (fun c => absurd c (by decide +kernel)) (fun _ => ?_)
  refine lv_aload_n hx hb dX1_init_31 rfl (lv_at hl 1 rfl) ?_
  refine k_get X hW inG1 rfl 0 (by decide) fl_X1_13 rfl 0 rfl (v := .ref s) rfl dX1_init_32 ?_
  refine lv_iload_n hx hb dX1_init_35 rfl (lv_at hl 0 rfl) ?_
  refine k_new (ci := 0) X hW inG0 tyX0 tyX0_ok rfl cl_X1_11 mk_X0 yi_X0_init.2.2 (df0 0) ⟨Nat.le_of_ble_eq_true rfl, Nat.le_of_ble_eq_true rfl⟩ dX1_init_36 (fun q4 H hW => ?_)
  refine lv_dup hx hb dX1_init_39 rfl ?_
  refine kIN (rest := [.ref q4, .int (nI 4), .ref s]) X hW (c_X0_init l D k q4) yI_X0 lkn_X1_24 ⟨Nat.le_of_ble_eq_true rfl, Nat.le_of_ble_eq_true rfl⟩ (wr := [hisO b s (nI 0) (nI 0), arqC k s 7 (va_up (va_up (va_up (va_up (fun _ => none) 0 (some (a0 0))) 1 (some (a1 0))) 2 (some (a2 0))) 3 (some (a3 0)))] ++ cardW k a0 iC ++ cardW k a1 iC ++ cardW k a2 iC ++ cardW k a3 iC) (List.Perm.refl _) hl.1 (Nat.le_of_ble_eq_true rfl) ⟨Nat.le_of_ble_eq_true rfl, Nat.le_of_ble_eq_true rfl⟩ dX1_init_40 (fun w1 H locs hw1 hW => ?_)
  obtain ⟨a4, rfl, rfl⟩ := hw1
  refine k_aast X hW 1 4 42 0 rfl rfl rfl rfl rfl (by decide) (by decide) dX1_init_43 (w' := [hisO b s (nI 0) (nI 0), arqC k s 7 (va_up (va_up (va_up (va_up (va_up (fun _ => none) 0 (some (a0 0))) 1 (some (a1 0))) 2 (some (a2 0))) 3 (some (a3 0))) 4 (some (a4 0)))] ++ cardW k a0 iC ++ cardW k a1 iC ++ cardW k a2 iC ++ cardW k a3 iC ++ cardW k a4 iC) rfl (fun H locs hW => ?_)
  refine lv_iinc (v := nI 5) (lv' := [(1, .int (nI 5)), (0, .ref b)]) hx hb dX1_init_44 hl (k := 0) rfl (k_inc _) (by decide) rfl (fun ls hl => ?_)
  refine lv_goto (tgt := 25) hx hb dX1_init_47 (by decide) ?_
  refine lv_iload_n hx hb dX1_init_25 rfl (lv_at hl 0 rfl) ?_
  refine lv_bipush (v := nI 7) hx hb dX1_init_26 (by decide +kernel) ?_
  refine lv_icmp_ge (tgt := 50) hx hb dX1_init_28 (by decide) (fun c => absurd c (by decide +kernel)) (fun _ => ?_)
  refine lv_aload_n hx hb dX1_init_31 rfl (lv_at hl 1 rfl) ?_
  refine k_get X hW inG1 rfl 0 (by decide) fl_X1_13 rfl 0 rfl (v := .ref s) rfl dX1_init_32 ?_
  refine lv_iload_n hx hb dX1_init_35 rfl (lv_at hl 0 rfl) ?_
  refine k_new (ci := 0) X hW inG0 tyX0 tyX0_ok rfl cl_X1_11 mk_X0 yi_X0_init.2.2 (df0 0) ⟨Nat.le_of_ble_eq_true rfl, Nat.le_of_ble_eq_true rfl⟩ dX1_init_36 (fun q5 H hW => ?_)
  refine lv_dup hx hb dX1_init_39 rfl ?_
  refine kIN (rest := [.ref q5, .int (nI 5), .ref s]) X hW (c_X0_init l D k q5) yI_X0 lkn_X1_24 ⟨Nat.le_of_ble_eq_true rfl, Nat.le_of_ble_eq_true rfl⟩ (wr := [hisO b s (nI 0) (nI 0), arqC k s 7 (va_up (va_up (va_up (va_up (va_up (fun _ => none) 0 (some (a0 0))) 1 (some (a1 0))) 2 (some (a2 0))) 3 (some (a3 0))) 4 (some (a4 0)))] ++ cardW k a0 iC ++ cardW k a1 iC ++ cardW k a2 iC ++ cardW k a3 iC ++ cardW k a4 iC) (List.Perm.refl _) hl.1 (Nat.le_of_ble_eq_true rfl) ⟨Nat.le_of_ble_eq_true rfl, Nat.le_of_ble_eq_true rfl⟩ dX1_init_40 (fun w1 H locs hw1 hW => ?_)
  obtain ⟨a5, rfl, rfl⟩ := hw1
  refine k_aast X hW 1 4 52 0 rfl rfl rfl rfl rfl (by decide) (by decide) dX1_init_43 (w' := [hisO b s (nI 0) (nI 0), arqC k s 7 (va_up (va_up (va_up (va_up (va_up (va_up (fun _ => none) 0 (some (a0 0))) 1 (some (a1 0))) 2 (some (a2 0))) 3 (some (a3 0))) 4 (some (a4 0))) 5 (some (a5 0)))] ++ cardW k a0 iC ++ cardW k a1 iC ++ cardW k a2 iC ++ cardW k a3 iC ++ cardW k a4 iC ++ cardW k a5 iC) rfl (fun H locs hW => ?_)
  refine lv_iinc (v := nI 6) (lv' := [(1, .int (nI 6)), (0, .ref b)]) hx hb dX1_init_44 hl (k := 0) rfl (k_inc _) (by decide) rfl (fun ls hl => ?_)
  refine lv_goto (tgt := 25) hx hb dX1_init_47 (by decide) ?_
  refine lv_iload_n hx hb dX1_init_25 rfl (lv_at hl 0 rfl) ?_
  refine lv_bipush (v := nI 7) hx hb dX1_init_26 (by decide +kernel) ?_
  refine lv_icmp_ge (tgt := 50) hx hb dX1_init_28 (by decide) (fun c => absurd c (by decide +kernel)) (fun _ => ?_)
  refine lv_aload_n hx hb dX1_init_31 rfl (lv_at hl 1 rfl) ?_
  refine k_get X hW inG1 rfl 0 (by decide) fl_X1_13 rfl 0 rfl (v := .ref s) rfl dX1_init_32 ?_
  refine lv_iload_n hx hb dX1_init_35 rfl (lv_at hl 0 rfl) ?_
  refine k_new (ci := 0) X hW inG0 tyX0 tyX0_ok rfl cl_X1_11 mk_X0 yi_X0_init.2.2 (df0 0) ⟨Nat.le_of_ble_eq_true rfl, Nat.le_of_ble_eq_true rfl⟩ dX1_init_36 (fun q6 H hW => ?_)
  refine lv_dup hx hb dX1_init_39 rfl ?_
  refine kIN (rest := [.ref q6, .int (nI 6), .ref s]) X hW (c_X0_init l D k q6) yI_X0 lkn_X1_24 ⟨Nat.le_of_ble_eq_true rfl, Nat.le_of_ble_eq_true rfl⟩ (wr := [hisO b s (nI 0) (nI 0), arqC k s 7 (va_up (va_up (va_up (va_up (va_up (va_up (fun _ => none) 0 (some (a0 0))) 1 (some (a1 0))) 2 (some (a2 0))) 3 (some (a3 0))) 4 (some (a4 0))) 5 (some (a5 0)))] ++ cardW k a0 iC ++ cardW k a1 iC ++ cardW k a2 iC ++ cardW k a3 iC ++ cardW k a4 iC ++ cardW k a5 iC) (List.Perm.refl _) hl.1 (Nat.le_of_ble_eq_true rfl) ⟨Nat.le_of_ble_eq_true rfl, Nat.le_of_ble_eq_true rfl⟩ dX1_init_40 (fun w1 H locs hw1 hW => ?_)
  obtain ⟨a6, rfl, rfl⟩ := hw1
  refine k_aast X hW 1 4 62 0 rfl rfl rfl rfl rfl (by decide) (by decide) dX1_init_43 (w' := [hisO b s (nI 0) (nI 0), arqC k s 7 (va_up (va_up (va_up (va_up (va_up (va_up (va_up (fun _ => none) 0 (some (a0 0))) 1 (some (a1 0))) 2 (some (a2 0))) 3 (some (a3 0))) 4 (some (a4 0))) 5 (some (a5 0))) 6 (some (a6 0)))] ++ cardW k a0 iC ++ cardW k a1 iC ++ cardW k a2 iC ++ cardW k a3 iC ++ cardW k a4 iC ++ cardW k a5 iC ++ cardW k a6 iC) rfl (fun H locs hW => ?_)
  refine lv_iinc (v := nI 7) (lv' := [(1, .int (nI 7)), (0, .ref b)]) hx hb dX1_init_44 hl (k := 0) rfl (k_inc _) (by decide) rfl (fun ls hl => ?_)
  refine lv_goto (tgt := 25) hx hb dX1_init_47 (by decide) ?_
  refine lv_iload_n hx hb dX1_init_25 rfl (lv_at hl 0 rfl) ?_
  refine lv_bipush (v := nI 7) hx hb dX1_init_26 (by decide +kernel) ?_
  refine lv_icmp_ge (tgt := 50) hx hb dX1_init_28 (by decide) (fun _ => ?_) (fun c => absurd (by decide +kernel) c)
  obtain ⟨a, e0, e1, e2, e3, e4, e5, e6⟩ : ∃ a : Nat → Nat → Nat, a 0 = a0 ∧ a 1 = a1 ∧ a 2 = a2 ∧ a 3 = a3 ∧ a 4 = a4 ∧ a 5 = a5 ∧ a 6 = a6 := ⟨fun j => match j with | 0 => a0 | 1 => a1 | 2 => a2 | 3 => a3 | 4 => a4 | 5 => a5 | _ => a6, rfl, rfl, rfl, rfl, rfl, rfl, rfl⟩
  subst e0 e1 e2 e3 e4 e5 e6
  have hW := hW.arq 1 (g := fun j => some (a j 0)) rfl (fun j hj => by rcases (by omega : j = 0 ∨ j = 1 ∨ j = 2 ∨ j = 3 ∨ j = 4 ∨ j = 5 ∨ j = 6) with rfl | rfl | rfl | rfl | rfl | rfl | rfl <;> rfl) (w' := [hisO b s (nI 0) (nI 0), arqC k s 7 (fun j => some (a j 0))] ++ (cardW k (a 0) iC ++ (cardW k (a 1) iC ++ (cardW k (a 2) iC ++ (cardW k (a 3) iC ++ (cardW k (a 4) iC ++ (cardW k (a 5) iC ++ (cardW k (a 6) iC)))))))) rfl
  exact hQ _ _ _ _ _ hW dX1_init_50 ⟨s, a, rfl⟩
