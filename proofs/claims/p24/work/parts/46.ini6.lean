theorem df1 : ∀ j, j < 3 → defaultValue (tyX1 j) = vp_V [.null, .int (nI 0), .int (nI 0)] j := by
  intro j hj
  rcases (by omega : j = 0 ∨ j = 1 ∨ j = 2) with rfl | rfl | rfl <;> rfl
theorem df2 : ∀ j, j < 9 → defaultValue (tyX2 j) = vp_V [.null, .int 0, .int 0, .int 0, .int 0, .int 0, .int 0, .int 0, .int 0] j := by
  intro j hj
  rcases (by omega : j = 0 ∨ j = 1 ∨ j = 2 ∨ j = 3 ∨ j = 4 ∨ j = 5 ∨ j = 6 ∨ j = 7 ∨ j = 8) with rfl | rfl | rfl | rfl | rfl | rfl | rfl | rfl | rfl <;> rfl
/-- the cells of the object that are no card's -/
abbrev hdW (k : Nat → ClassId) (B : Nat → Nat) (A : Nat → Nat → Nat) (nx sz : Int32) (sv z g : Nat → Int32) : va_W := [(B 0, .inr (4, [.ref (A 0 0), .ref (A 1 0), .ref (B 1), .ref (B 2), .ref (B 3), .ref (B 5)])), arqC k (B 1) 2 (fun j => some (A (2 + j) 0)), (B 2, .inl (k 3, 2, .inl sv)), hisO (B 3) (B 4) nx sz, arqC k (B 4) 7 (fun j => some (A (4 + j) 0)), (B 5, .inr (2, [.ref (B 6), .int (z 1), .int (z 2), .int (z 3), .int (z 4), .int (z 5), .int (z 6), .int (z 7), .int (z 8)])), (B 6, .inl (k 2, 80, .inl g))]
/-- the cards that a list names: 0 the card, 1 the probe, 2 and 3 the slots, 4 to 10 the history's -/
abbrev cdsW (k : Nat → ClassId) (A : Nat → Nat → Nat) (V : Nat → CS) (is : List Nat) : va_W := is.flatMap (fun i => cardW k (A i) (V i))
abbrev bigW (k : Nat → ClassId) (B : Nat → Nat) (A : Nat → Nat → Nat) (V : Nat → CS) (nx sz : Int32) (sv z g : Nat → Int32) : va_W := hdW k B A nx sz sv z g ++ cdsW k A V (List.range 11)
set_option maxHeartbeats 4000000 in
set_option maxRecDepth 100000 in
theorem c_X4_init (l : Launch) (D : va_G) (k : Nat → ClassId) (b : Nat) : mC l yX4_init (wsY yX4_init cX4_init 2 none) 4 116 18297 D k [.ref b] [(b, .inr (4, [.null, .null, .null, .null, .null, .null]))] (fun w => ∃ (B : Nat → Nat) (A : Nat → Nat → Nat), B 0 = b ∧ w.Perm (bigW k B A (fun _ => iC) (nI 0) (nI 0) oQ iP oQ)) := by
  refine mC_intro rfl rfl (Nat.le_of_ble_eq_true rfl) ?_
  intro p e s m args below meth c A Q ls X hW hl hmn hQ
  have hx := X.hx
  have hb := X.hb
  have hl : lv_has ls 2 [(0, .ref b)] := hl
  refine lv_aload_n hx hb dX4_init_0 rfl (lv_at hl 0 rfl) ?_
  refine k_obj X lk_X4_1 hl.1 ⟨Nat.le_of_ble_eq_true rfl, Nat.le_of_ble_eq_true rfl⟩ dX4_init_1 ?_
  refine lv_aload_n hx hb dX4_init_4 rfl (lv_at hl 0 rfl) ?_
  refine k_new (ci := 0) X hW inG0 tyX0 tyX0_ok rfl cl_X4_7 mk_X0 yi_X0_init.2.2 (df0 0) ⟨Nat.le_of_ble_eq_true rfl, Nat.le_of_ble_eq_true rfl⟩ dX4_init_5 (fun q H hW => ?_)
  refine lv_dup hx hb dX4_init_8 rfl ?_
  refine kIN (rest := [.ref q, .ref b]) X hW (c_X0_init l D k q) yI_X0 lkn_X4_9 ⟨Nat.le_of_ble_eq_true rfl, Nat.le_of_ble_eq_true rfl⟩ (wr := [(b, .inr (4, [.null, .null, .null, .null, .null, .null]))]) (List.Perm.refl _) hl.1 (Nat.le_of_ble_eq_true rfl) ⟨Nat.le_of_ble_eq_true rfl, Nat.le_of_ble_eq_true rfl⟩ dX4_init_9 (fun w1 H locs hw1 hW => ?_)
  obtain ⟨a0, rfl, rfl⟩ := hw1
  refine k_putF X hW hmn inG4 rfl tyX4_ok nmX4 0 (by decide) fl_X4_10 rfl rfl 0 rfl rfl rfl (Nat.le_of_ble_eq_true rfl) dX4_init_12 (w' := [(b, .inr (4, [.ref (a0 0), .null, .null, .null, .null, .null]))] ++ cardW k a0 iC) rfl (fun H locs hW => ?_)
  refine lv_aload_n hx hb dX4_init_15 rfl (lv_at hl 0 rfl) ?_
  refine k_new (ci := 0) X hW inG0 tyX0 tyX0_ok rfl cl_X4_7 mk_X0 yi_X0_init.2.2 (df0 0) ⟨Nat.le_of_ble_eq_true rfl, Nat.le_of_ble_eq_true rfl⟩ dX4_init_16 (fun q H hW => ?_)
  refine lv_dup hx hb dX4_init_19 rfl ?_
  refine kIN (rest := [.ref q, .ref b]) X hW (c_X0_init l D k q) yI_X0 lkn_X4_9 ⟨Nat.le_of_ble_eq_true rfl, Nat.le_of_ble_eq_true rfl⟩ (wr := [(b, .inr (4, [.ref (a0 0), .null, .null, .null, .null, .null]))] ++ cardW k a0 iC) (List.Perm.refl _) hl.1 (Nat.le_of_ble_eq_true rfl) ⟨Nat.le_of_ble_eq_true rfl, Nat.le_of_ble_eq_true rfl⟩ dX4_init_20 (fun w1 H locs hw1 hW => ?_)
  obtain ⟨a1, rfl, rfl⟩ := hw1
  refine k_putF X hW hmn inG4 rfl tyX4_ok nmX4 1 (by decide) fl_X4_16 rfl rfl 0 rfl rfl rfl (Nat.le_of_ble_eq_true rfl) dX4_init_23 (w' := [(b, .inr (4, [.ref (a0 0), .ref (a1 0), .null, .null, .null, .null]))] ++ cardW k a0 iC ++ cardW k a1 iC) rfl (fun H locs hW => ?_)
  refine lv_aload_n hx hb dX4_init_26 rfl (lv_at hl 0 rfl) ?_
  refine lv_iconst (v := nI 2) hx hb dX4_init_27 (by decide +kernel) ?_
  refine k_newq X hW cl_X4_7 X.hG.2.2.1 4 rfl rfl (by decide) ⟨Nat.le_of_ble_eq_true rfl, Nat.le_of_ble_eq_true rfl⟩ dX4_init_28 (fun sl H hW => ?_)
  refine k_putF X hW hmn inG4 rfl tyX4_ok nmX4 2 (by decide) fl_X4_19 rfl rfl 0 rfl rfl rfl (Nat.le_of_ble_eq_true rfl) dX4_init_31 (w' := [(b, .inr (4, [.ref (a0 0), .ref (a1 0), .ref sl, .null, .null, .null]))] ++ cardW k a0 iC ++ cardW k a1 iC ++ [arqC k sl 2 (fun _ => none)]) rfl (fun H locs hW => ?_)
  refine lv_aload_n hx hb dX4_init_34 rfl (lv_at hl 0 rfl) ?_
  refine lv_iconst (v := nI 2) hx hb dX4_init_35 (by decide +kernel) ?_
  refine k_newa X hW ac_boolean rfl 3 rfl (fun _ _ h => h) (N' := 2) (a0 := (2, .inl oQ)) (fun _ => rfl) rfl (by decide) (by decide) ⟨Nat.le_of_ble_eq_true rfl, Nat.le_of_ble_eq_true rfl⟩ dX4_init_36 (fun sv H hW => ?_)
  refine k_putF X hW hmn inG4 rfl tyX4_ok nmX4 3 (by decide) fl_X4_23 rfl rfl 0 rfl rfl rfl (Nat.le_of_ble_eq_true rfl) dX4_init_38 (w' := [(b, .inr (4, [.ref (a0 0), .ref (a1 0), .ref sl, .ref sv, .null, .null]))] ++ cardW k a0 iC ++ cardW k a1 iC ++ [arqC k sl 2 (fun _ => none)] ++ [(sv, .inl (k 3, 2, .inl oQ))]) rfl (fun H locs hW => ?_)
  refine lv_aload_n hx hb dX4_init_41 rfl (lv_at hl 0 rfl) ?_
  refine k_new (ci := 1) X hW inG1 tyX1 tyX1_ok rfl cl_X4_27 mk_X1 yi_X1_init.2.2 df1 ⟨Nat.le_of_ble_eq_true rfl, Nat.le_of_ble_eq_true rfl⟩ dX4_init_42 (fun q H hW => ?_)
  refine lv_dup hx hb dX4_init_45 rfl ?_
  obtain ⟨o, he⟩ : ∃ x : Nat, x = q := ⟨_, rfl⟩
  subst he
  refine kIN (rest := [.ref o, .ref b]) X hW (c_X1_init l D k o) yI_X1 lkn_X4_29 ⟨Nat.le_of_ble_eq_true rfl, Nat.le_of_ble_eq_true rfl⟩ (wr := [(b, .inr (4, [.ref (a0 0), .ref (a1 0), .ref sl, .ref sv, .null, .null]))] ++ cardW k a0 iC ++ cardW k a1 iC ++ [arqC k sl 2 (fun _ => none)] ++ [(sv, .inl (k 3, 2, .inl oQ))]) (List.Perm.refl _) hl.1 (Nat.le_of_ble_eq_true rfl) ⟨Nat.le_of_ble_eq_true rfl, Nat.le_of_ble_eq_true rfl⟩ dX4_init_46 (fun w1 H locs hw1 hW => ?_)
  obtain ⟨s, ah, rfl⟩ := hw1
  refine k_putF X hW hmn inG4 rfl tyX4_ok nmX4 4 (by decide) fl_X4_30 rfl rfl 0 rfl rfl rfl (Nat.le_of_ble_eq_true rfl) dX4_init_49 (w' := [(b, .inr (4, [.ref (a0 0), .ref (a1 0), .ref sl, .ref sv, .ref o, .null]))] ++ cardW k a0 iC ++ cardW k a1 iC ++ [arqC k sl 2 (fun _ => none)] ++ [(sv, .inl (k 3, 2, .inl oQ))] ++ ([hisO o s (nI 0) (nI 0), arqC k s 7 (fun j => some (ah j 0))] ++ (cardW k (ah 0) iC ++ (cardW k (ah 1) iC ++ (cardW k (ah 2) iC ++ (cardW k (ah 3) iC ++ (cardW k (ah 4) iC ++ (cardW k (ah 5) iC ++ (cardW k (ah 6) iC))))))))) rfl (fun H locs hW => ?_)
  refine lv_aload_n hx hb dX4_init_52 rfl (lv_at hl 0 rfl) ?_
  refine k_new (ci := 2) X hW inG2 tyX2 tyX2_ok rfl cl_X4_34 mk_X2 yi_X2_init.2.2 df2 ⟨Nat.le_of_ble_eq_true rfl, Nat.le_of_ble_eq_true rfl⟩ dX4_init_53 (fun q H hW => ?_)
  refine lv_dup hx hb dX4_init_56 rfl ?_
  obtain ⟨pd, he⟩ : ∃ x : Nat, x = q := ⟨_, rfl⟩
  subst he
  refine kIN (rest := [.ref pd, .ref b]) X hW (c_X2_init l D k pd) yI_X2 lkn_X4_36 ⟨Nat.le_of_ble_eq_true rfl, Nat.le_of_ble_eq_true rfl⟩ (wr := [(b, .inr (4, [.ref (a0 0), .ref (a1 0), .ref sl, .ref sv, .ref o, .null]))] ++ cardW k a0 iC ++ cardW k a1 iC ++ [arqC k sl 2 (fun _ => none)] ++ [(sv, .inl (k 3, 2, .inl oQ))] ++ ([hisO o s (nI 0) (nI 0), arqC k s 7 (fun j => some (ah j 0))] ++ (cardW k (ah 0) iC ++ (cardW k (ah 1) iC ++ (cardW k (ah 2) iC ++ (cardW k (ah 3) iC ++ (cardW k (ah 4) iC ++ (cardW k (ah 5) iC ++ (cardW k (ah 6) iC))))))))) (List.Perm.refl _) hl.1 (Nat.le_of_ble_eq_true rfl) ⟨Nat.le_of_ble_eq_true rfl, Nat.le_of_ble_eq_true rfl⟩ dX4_init_57 (fun w1 H locs hw1 hW => ?_)
  obtain ⟨ps, rfl⟩ := hw1
  refine k_putF X hW hmn inG4 rfl tyX4_ok nmX4 5 (by decide) fl_X4_37 rfl rfl 0 rfl rfl rfl (Nat.le_of_ble_eq_true rfl) dX4_init_60 (w' := [(b, .inr (4, [.ref (a0 0), .ref (a1 0), .ref sl, .ref sv, .ref o, .ref pd]))] ++ cardW k a0 iC ++ cardW k a1 iC ++ [arqC k sl 2 (fun _ => none)] ++ [(sv, .inl (k 3, 2, .inl oQ))] ++ ([hisO o s (nI 0) (nI 0), arqC k s 7 (fun j => some (ah j 0))] ++ (cardW k (ah 0) iC ++ (cardW k (ah 1) iC ++ (cardW k (ah 2) iC ++ (cardW k (ah 3) iC ++ (cardW k (ah 4) iC ++ (cardW k (ah 5) iC ++ (cardW k (ah 6) iC)))))))) ++ padW k pd ps iP oQ) rfl (fun H locs hW => ?_)
  refine lv_iconst (v := nI 0) hx hb dX4_init_63 (by decide +kernel) ?_
  refine lv_istore_n (lv' := [(1, .int (nI 0)), (0, .ref b)]) hx hb dX4_init_64 rfl hl (by decide) rfl (fun ls hl => ?_)
  refine lv_iload_n hx hb dX4_init_65 rfl (lv_at hl 0 rfl) ?_
  refine lv_iconst (v := nI 2) hx hb dX4_init_66 (by decide +kernel) ?_
  refine lv_icmp_ge (tgt := 89) hx hb dX4_init_67 (by decide) (fun c => absurd c (by decide +kernel)) (fun _ => ?_)
  refine lv_aload_n hx hb dX4_init_70 rfl (lv_at hl 1 rfl) ?_
  refine k_get X hW inG4 rfl 2 (by decide) fl_X4_19 rfl 0 rfl (v := .ref sl) rfl dX4_init_71 ?_
  refine lv_iload_n hx hb dX4_init_74 rfl (lv_at hl 0 rfl) ?_
  refine k_new (ci := 0) X hW inG0 tyX0 tyX0_ok rfl cl_X4_7 mk_X0 yi_X0_init.2.2 (df0 0) ⟨Nat.le_of_ble_eq_true rfl, Nat.le_of_ble_eq_true rfl⟩ dX4_init_75 (fun q H hW => ?_)
  refine lv_dup hx hb dX4_init_78 rfl ?_
  refine kIN (rest := [.ref q, .int (nI 0), .ref sl]) X hW (c_X0_init l D k q) yI_X0 lkn_X4_9 ⟨Nat.le_of_ble_eq_true rfl, Nat.le_of_ble_eq_true rfl⟩ (wr := [(b, .inr (4, [.ref (a0 0), .ref (a1 0), .ref sl, .ref sv, .ref o, .ref pd]))] ++ cardW k a0 iC ++ cardW k a1 iC ++ [arqC k sl 2 (fun _ => none)] ++ [(sv, .inl (k 3, 2, .inl oQ))] ++ ([hisO o s (nI 0) (nI 0), arqC k s 7 (fun j => some (ah j 0))] ++ (cardW k (ah 0) iC ++ (cardW k (ah 1) iC ++ (cardW k (ah 2) iC ++ (cardW k (ah 3) iC ++ (cardW k (ah 4) iC ++ (cardW k (ah 5) iC ++ (cardW k (ah 6) iC)))))))) ++ padW k pd ps iP oQ) (List.Perm.refl _) hl.1 (Nat.le_of_ble_eq_true rfl) ⟨Nat.le_of_ble_eq_true rfl, Nat.le_of_ble_eq_true rfl⟩ dX4_init_79 (fun w1 H locs hw1 hW => ?_)
  obtain ⟨a2, rfl, rfl⟩ := hw1
  refine k_aast X hW 21 4 97 0 rfl rfl rfl rfl rfl (by decide) (by decide) dX4_init_82 (w' := [(b, .inr (4, [.ref (a0 0), .ref (a1 0), .ref sl, .ref sv, .ref o, .ref pd]))] ++ cardW k a0 iC ++ cardW k a1 iC ++ [arqC k sl 2 (va_up (fun _ => none) 0 (some (a2 0)))] ++ [(sv, .inl (k 3, 2, .inl oQ))] ++ ([hisO o s (nI 0) (nI 0), arqC k s 7 (fun j => some (ah j 0))] ++ (cardW k (ah 0) iC ++ (cardW k (ah 1) iC ++ (cardW k (ah 2) iC ++ (cardW k (ah 3) iC ++ (cardW k (ah 4) iC ++ (cardW k (ah 5) iC ++ (cardW k (ah 6) iC)))))))) ++ padW k pd ps iP oQ ++ cardW k a2 iC) rfl (fun H locs hW => ?_)
  refine lv_iinc (v := nI 1) (lv' := [(1, .int (nI 1)), (0, .ref b)]) hx hb dX4_init_83 hl (k := 0) rfl (k_inc _) (by decide) rfl (fun ls hl => ?_)
  refine lv_goto (tgt := 65) hx hb dX4_init_86 (by decide) ?_
  refine lv_iload_n hx hb dX4_init_65 rfl (lv_at hl 0 rfl) ?_
  refine lv_iconst (v := nI 2) hx hb dX4_init_66 (by decide +kernel) ?_
  refine lv_icmp_ge (tgt := 89) hx hb dX4_init_67 (by decide) (fun c => absurd c (by decide +kernel)) (fun _ => ?_)
  refine lv_aload_n hx hb dX4_init_70 rfl (lv_at hl 1 rfl) ?_
  refine k_get X hW inG4 rfl 2 (by decide) fl_X4_19 rfl 0 rfl (v := .ref sl) rfl dX4_init_71 ?_
  refine lv_iload_n hx hb dX4_init_74 rfl (lv_at hl 0 rfl) ?_
  refine k_new (ci := 0) X hW inG0 tyX0 tyX0_ok rfl cl_X4_7 mk_X0 yi_X0_init.2.2 (df0 0) ⟨Nat.le_of_ble_eq_true rfl, Nat.le_of_ble_eq_true rfl⟩ dX4_init_75 (fun q H hW => ?_)
  refine lv_dup hx hb dX4_init_78 rfl ?_
  refine kIN (rest := [.ref q, .int (nI 1), .ref sl]) X hW (c_X0_init l D k q) yI_X0 lkn_X4_9 ⟨Nat.le_of_ble_eq_true rfl, Nat.le_of_ble_eq_true rfl⟩ (wr := [(b, .inr (4, [.ref (a0 0), .ref (a1 0), .ref sl, .ref sv, .ref o, .ref pd]))] ++ cardW k a0 iC ++ cardW k a1 iC ++ [arqC k sl 2 (va_up (fun _ => none) 0 (some (a2 0)))] ++ [(sv, .inl (k 3, 2, .inl oQ))] ++ ([hisO o s (nI 0) (nI 0), arqC k s 7 (fun j => some (ah j 0))] ++ (cardW k (ah 0) iC ++ (cardW k (ah 1) iC ++ (cardW k (ah 2) iC ++ (cardW k (ah 3) iC ++ (cardW k (ah 4) iC ++ (cardW k (ah 5) iC ++ (cardW k (ah 6) iC)))))))) ++ padW k pd ps iP oQ ++ cardW k a2 iC) (List.Perm.refl _) hl.1 (Nat.le_of_ble_eq_true rfl) ⟨Nat.le_of_ble_eq_true rfl, Nat.le_of_ble_eq_true rfl⟩ dX4_init_79 (fun w1 H locs hw1 hW => ?_)
  obtain ⟨a3, rfl, rfl⟩ := hw1
  refine k_aast X hW 21 4 107 0 rfl rfl rfl rfl rfl (by decide) (by decide) dX4_init_82 (w' := [(b, .inr (4, [.ref (a0 0), .ref (a1 0), .ref sl, .ref sv, .ref o, .ref pd]))] ++ cardW k a0 iC ++ cardW k a1 iC ++ [arqC k sl 2 (va_up (va_up (fun _ => none) 0 (some (a2 0))) 1 (some (a3 0)))] ++ [(sv, .inl (k 3, 2, .inl oQ))] ++ ([hisO o s (nI 0) (nI 0), arqC k s 7 (fun j => some (ah j 0))] ++ (cardW k (ah 0) iC ++ (cardW k (ah 1) iC ++ (cardW k (ah 2) iC ++ (cardW k (ah 3) iC ++ (cardW k (ah 4) iC ++ (cardW k (ah 5) iC ++ (cardW k (ah 6) iC)))))))) ++ padW k pd ps iP oQ ++ cardW k a2 iC ++ cardW k a3 iC) rfl (fun H locs hW => ?_)
  refine lv_iinc (v := nI 2) (lv' := [(1, .int (nI 2)), (0, .ref b)]) hx hb dX4_init_83 hl (k := 0) rfl (k_inc _) (by decide) rfl (fun ls hl => ?_)
  refine lv_goto (tgt := 65) hx hb dX4_init_86 (by decide) ?_
  refine lv_iload_n hx hb dX4_init_65 rfl (lv_at hl 0 rfl) ?_
  refine lv_iconst (v := nI 2) hx hb dX4_init_66 (by decide +kernel) ?_
  refine lv_icmp_ge (tgt := 89) hx hb dX4_init_67 (by decide) (fun _ => ?_) (fun c => absurd (by decide +kernel) c)
  obtain ⟨B, e0, e1, e2, e3, e4, e5, e6⟩ : ∃ B : Nat → Nat, B 0 = b ∧ B 1 = sl ∧ B 2 = sv ∧ B 3 = o ∧ B 4 = s ∧ B 5 = pd ∧ B 6 = ps := ⟨fun j => match j with | 0 => b | 1 => sl | 2 => sv | 3 => o | 4 => s | 5 => pd | _ => ps, rfl, rfl, rfl, rfl, rfl, rfl, rfl⟩
  subst e0 e1 e2 e3 e4 e5 e6
  obtain ⟨A, e0, e1, e2, e3, e4⟩ : ∃ A : Nat → Nat → Nat, A 0 = a0 ∧ A 1 = a1 ∧ A 2 = a2 ∧ A 3 = a3 ∧ (fun j => A (4 + j)) = ah := ⟨fun j => match j with | 0 => a0 | 1 => a1 | 2 => a2 | 3 => a3 | n + 4 => ah n, rfl, rfl, rfl, rfl, by funext j; rw [Nat.add_comm]⟩
  subst e0 e1 e2 e3 e4
  have hW := hW.arq 21 (g := fun j => some (A (2 + j) 0)) rfl (fun j hj => by rcases (by omega : j = 0 ∨ j = 1) with rfl | rfl <;> rfl) rfl
  exact hQ _ _ _ _ _ hW dX4_init_89 ⟨B, A, rfl, w_idx (n := 117) [0, 21, 22, 23, 24, 95, 96, 1, 2, 3, 4, 5, 6, 7, 8, 9, 10, 11, 12, 13, 14, 15, 16, 17, 18, 19, 20, 97, 98, 99, 100, 101, 102, 103, 104, 105, 106, 107, 108, 109, 110, 111, 112, 113, 114, 115, 116, 25, 26, 27, 28, 29, 30, 31, 32, 33, 34, 35, 36, 37, 38, 39, 40, 41, 42, 43, 44, 45, 46, 47, 48, 49, 50, 51, 52, 53, 54, 55, 56, 57, 58, 59, 60, 61, 62, 63, 64, 65, 66, 67, 68, 69, 70, 71, 72, 73, 74, 75, 76, 77, 78, 79, 80, 81, 82, 83, 84, 85, 86, 87, 88, 89, 90, 91, 92, 93, 94] rfl (by decide +kernel) rfl⟩
