theorem df3 : ∀ j, j < 13 → defaultValue (tyX3 j) = vp_V (qF oQ) j := by
  intro j hj
  rcases (by omega : j = 0 ∨ j = 1 ∨ j = 2 ∨ j = 3 ∨ j = 4 ∨ j = 5 ∨ j = 6 ∨ j = 7 ∨ j = 8 ∨ j = 9 ∨ j = 10 ∨ j = 11 ∨ j = 12) with rfl | rfl | rfl | rfl | rfl | rfl | rfl | rfl | rfl | rfl | rfl | rfl | rfl <;> rfl
def iC : CS := fun c => match c with
  | 0 => oQ
  | 1 => va_cpy (SVi 2) oQ 0 0 4
  | 2 => oQ
  | 3 => oQ
  | 4 => oQ
  | 5 => oQ
  | _ => iQ
abbrev oC (b : Nat) : Nat × va_E := (b, .inr (0, [.null, .null, .int (nI 0), .int (nI 0), .null, .null, .null, .null]))
set_option maxHeartbeats 4000000 in
set_option maxRecDepth 100000 in
theorem c_X0_init (l : Launch) (D : va_G) (k : Nat → ClassId) (b : Nat) : mC l yX0_init (wsY yX0_init cX0_init 2 none) 2 9 1646 D k [.ref b] [oC b] (fun w => ∃ a : Nat → Nat, a 0 = b ∧ w = cardW k a iC) := by
  refine mC_intro rfl rfl (Nat.le_of_ble_eq_true rfl) ?_
  intro p e s m args below meth c A Q ls X hW hl hmn hQ
  have hx := X.hx
  have hb := X.hb
  have hl : lv_has ls 2 [(0, .ref b)] := hl
  refine lv_aload_n hx hb dX0_init_0 rfl (lv_at hl 0 rfl) ?_
  refine k_obj X lk_X0_3 hl.1 ⟨Nat.le_of_ble_eq_true rfl, Nat.le_of_ble_eq_true rfl⟩ dX0_init_1 ?_
  refine lv_aload_n hx hb dX0_init_4 rfl (lv_at hl 0 rfl) ?_
  refine k_getsN X hW 2 (by decide) fln_X0_9 dX0_init_5 (fun t5 hT5 => ?_)
  refine va_tlen (v := nI 4) hx hb hT5 hW.2.2 rfl dX0_init_8 ?_
  refine k_newa X hW ac_int rfl 0 rfl (fun _ _ h => h) (N' := 4) (a0 := (4, .inl oQ)) (fun _ => rfl) rfl (by decide) (by decide) ⟨Nat.le_of_ble_eq_true rfl, Nat.le_of_ble_eq_true rfl⟩ dX0_init_9 (fun q1 H hW => ?_)
  refine k_putF X hW hmn inG0 rfl tyX0_ok nmX0 0 (by decide) fl_X0_13 rfl rfl 0 rfl rfl rfl (Nat.le_of_ble_eq_true rfl) dX0_init_11 (w' := [(b, .inr (0, [.ref q1, .null, .int (nI 0), .int (nI 0), .null, .null, .null, .null])), (q1, .inl (k 0, 4, .inl oQ))]) rfl (fun H locs hW => ?_)
  refine lv_aload_n hx hb dX0_init_14 rfl (lv_at hl 0 rfl) ?_
  refine lv_iconst (v := nI 3) hx hb dX0_init_15 (by decide +kernel) ?_
  refine k_newq X hW cl_X0_18 X.hG.2.1 1 rfl rfl (by decide) ⟨Nat.le_of_ble_eq_true rfl, Nat.le_of_ble_eq_true rfl⟩ dX0_init_16 (fun q2 H hW => ?_)
  refine k_putF X hW hmn inG0 rfl tyX0_ok nmX0 1 (by decide) fl_X0_20 rfl rfl 0 rfl rfl rfl (Nat.le_of_ble_eq_true rfl) dX0_init_19 (w' := [(b, .inr (0, [.ref q1, .ref q2, .int (nI 0), .int (nI 0), .null, .null, .null, .null])), (q1, .inl (k 0, 4, .inl oQ)), (q2, .inl (k 1, 3, .inr (.inr (.inr (.inr (fun _ => none))))))]) rfl (fun H locs hW => ?_)
  refine lv_aload_n hx hb dX0_init_22 rfl (lv_at hl 0 rfl) ?_
  refine lv_iconst (v := nI 0) hx hb dX0_init_23 (by decide +kernel) ?_
  refine k_put X hW inG0 rfl tyX0_ok nmX0 2 (by decide) fl_X0_24 rfl rfl 0 rfl rfl rfl (Nat.le_of_ble_eq_true rfl) dX0_init_24 (w' := [(b, .inr (0, [.ref q1, .ref q2, .int (nI 0), .int (nI 0), .null, .null, .null, .null])), (q1, .inl (k 0, 4, .inl oQ)), (q2, .inl (k 1, 3, .inr (.inr (.inr (.inr (fun _ => none))))))]) rfl (fun H locs hW => ?_)
  refine lv_aload_n hx hb dX0_init_27 rfl (lv_at hl 0 rfl) ?_
  refine lv_iconst (v := nI 0) hx hb dX0_init_28 (by decide +kernel) ?_
  refine k_put X hW inG0 rfl tyX0_ok nmX0 3 (by decide) fl_X0_28 rfl rfl 0 rfl rfl rfl (Nat.le_of_ble_eq_true rfl) dX0_init_29 (w' := [(b, .inr (0, [.ref q1, .ref q2, .int (nI 0), .int (nI 0), .null, .null, .null, .null])), (q1, .inl (k 0, 4, .inl oQ)), (q2, .inl (k 1, 3, .inr (.inr (.inr (.inr (fun _ => none))))))]) rfl (fun H locs hW => ?_)
  refine lv_aload_n hx hb dX0_init_32 rfl (lv_at hl 0 rfl) ?_
  refine lv_sipush (v := nI 400) hx hb dX0_init_33 (by decide +kernel) ?_
  refine k_newa X hW ac_int rfl 0 rfl (fun _ _ h => h) (N' := 400) (a0 := (400, .inl oQ)) (fun _ => rfl) rfl (by decide) (by decide) ⟨Nat.le_of_ble_eq_true rfl, Nat.le_of_ble_eq_true rfl⟩ dX0_init_36 (fun q3 H hW => ?_)
  refine k_putF X hW hmn inG0 rfl tyX0_ok nmX0 4 (by decide) fl_X0_31 rfl rfl 0 rfl rfl rfl (Nat.le_of_ble_eq_true rfl) dX0_init_38 (w' := [(b, .inr (0, [.ref q1, .ref q2, .int (nI 0), .int (nI 0), .ref q3, .null, .null, .null])), (q1, .inl (k 0, 4, .inl oQ)), (q2, .inl (k 1, 3, .inr (.inr (.inr (.inr (fun _ => none)))))), (q3, .inl (k 0, 400, .inl oQ))]) rfl (fun H locs hW => ?_)
  refine lv_aload_n hx hb dX0_init_41 rfl (lv_at hl 0 rfl) ?_
  refine lv_sipush (v := nI 400) hx hb dX0_init_42 (by decide +kernel) ?_
  refine k_newa X hW ac_int rfl 0 rfl (fun _ _ h => h) (N' := 400) (a0 := (400, .inl oQ)) (fun _ => rfl) rfl (by decide) (by decide) ⟨Nat.le_of_ble_eq_true rfl, Nat.le_of_ble_eq_true rfl⟩ dX0_init_45 (fun q4 H hW => ?_)
  refine k_putF X hW hmn inG0 rfl tyX0_ok nmX0 5 (by decide) fl_X0_34 rfl rfl 0 rfl rfl rfl (Nat.le_of_ble_eq_true rfl) dX0_init_47 (w' := [(b, .inr (0, [.ref q1, .ref q2, .int (nI 0), .int (nI 0), .ref q3, .ref q4, .null, .null])), (q1, .inl (k 0, 4, .inl oQ)), (q2, .inl (k 1, 3, .inr (.inr (.inr (.inr (fun _ => none)))))), (q3, .inl (k 0, 400, .inl oQ)), (q4, .inl (k 0, 400, .inl oQ))]) rfl (fun H locs hW => ?_)
  refine lv_aload_n hx hb dX0_init_50 rfl (lv_at hl 0 rfl) ?_
  refine lv_sipush (v := nI 400) hx hb dX0_init_51 (by decide +kernel) ?_
  refine k_newa X hW ac_int rfl 0 rfl (fun _ _ h => h) (N' := 400) (a0 := (400, .inl oQ)) (fun _ => rfl) rfl (by decide) (by decide) ⟨Nat.le_of_ble_eq_true rfl, Nat.le_of_ble_eq_true rfl⟩ dX0_init_54 (fun q5 H hW => ?_)
  refine k_putF X hW hmn inG0 rfl tyX0_ok nmX0 6 (by decide) fl_X0_37 rfl rfl 0 rfl rfl rfl (Nat.le_of_ble_eq_true rfl) dX0_init_56 (w' := [(b, .inr (0, [.ref q1, .ref q2, .int (nI 0), .int (nI 0), .ref q3, .ref q4, .ref q5, .null])), (q1, .inl (k 0, 4, .inl oQ)), (q2, .inl (k 1, 3, .inr (.inr (.inr (.inr (fun _ => none)))))), (q3, .inl (k 0, 400, .inl oQ)), (q4, .inl (k 0, 400, .inl oQ)), (q5, .inl (k 0, 400, .inl oQ))]) rfl (fun H locs hW => ?_)
  refine lv_aload_n hx hb dX0_init_59 rfl (lv_at hl 0 rfl) ?_
  refine lv_sipush (v := nI 400) hx hb dX0_init_60 (by decide +kernel) ?_
  refine k_newa X hW ac_int rfl 0 rfl (fun _ _ h => h) (N' := 400) (a0 := (400, .inl oQ)) (fun _ => rfl) rfl (by decide) (by decide) ⟨Nat.le_of_ble_eq_true rfl, Nat.le_of_ble_eq_true rfl⟩ dX0_init_63 (fun q6 H hW => ?_)
  refine k_putF X hW hmn inG0 rfl tyX0_ok nmX0 7 (by decide) fl_X0_40 rfl rfl 0 rfl rfl rfl (Nat.le_of_ble_eq_true rfl) dX0_init_65 (w' := [(b, .inr (0, [.ref q1, .ref q2, .int (nI 0), .int (nI 0), .ref q3, .ref q4, .ref q5, .ref q6])), (q1, .inl (k 0, 4, .inl oQ)), (q2, .inl (k 1, 3, .inr (.inr (.inr (.inr (fun _ => none)))))), (q3, .inl (k 0, 400, .inl oQ)), (q4, .inl (k 0, 400, .inl oQ)), (q5, .inl (k 0, 400, .inl oQ)), (q6, .inl (k 0, 400, .inl oQ))]) rfl (fun H locs hW => ?_)
  refine k_getsN X hW 2 (by decide) fln_X0_9 dX0_init_68 (fun t68 hT68 => ?_)
  refine lv_iconst (v := nI 0) hx hb dX0_init_71 (by decide +kernel) ?_
  refine lv_aload_n hx hb dX0_init_72 rfl (lv_at hl 0 rfl) ?_
  refine k_get X hW inG0 rfl 0 (by decide) fl_X0_13 rfl 0 rfl (v := .ref q1) rfl dX0_init_73 ?_
  refine lv_iconst (v := nI 0) hx hb dX0_init_76 (by decide +kernel) ?_
  refine k_getsN X hW 2 (by decide) fln_X0_9 dX0_init_77 (fun t77 hT77 => ?_)
  refine va_tlen (v := nI 4) hx hb hT77 hW.2.2 rfl dX0_init_80 ?_
  refine k_copyT X hW hT68 1 rfl hl.1 ⟨Nat.le_of_ble_eq_true rfl, Nat.le_of_ble_eq_true rfl⟩ lk_X0_43 dX0_init_81 (w' := [(b, .inr (0, [.ref q1, .ref q2, .int (nI 0), .int (nI 0), .ref q3, .ref q4, .ref q5, .ref q6])), (q1, .inl (k 0, 4, .inl (va_cpy (SVi 2) oQ 0 0 4))), (q2, .inl (k 1, 3, .inr (.inr (.inr (.inr (fun _ => none)))))), (q3, .inl (k 0, 400, .inl oQ)), (q4, .inl (k 0, 400, .inl oQ)), (q5, .inl (k 0, 400, .inl oQ)), (q6, .inl (k 0, 400, .inl oQ))]) rfl (fun H locs hW => ?_)
  refine lv_iconst (v := nI 0) hx hb dX0_init_84 (by decide +kernel) ?_
  refine lv_istore_n (lv' := [(1, .int (nI 0)), (0, .ref b)]) hx hb dX0_init_85 rfl hl (by decide) rfl (fun ls hl => ?_)
  refine lv_iload_n hx hb dX0_init_86 rfl (lv_at hl 0 rfl) ?_
  refine lv_iconst (v := nI 3) hx hb dX0_init_87 (by decide +kernel) ?_
  refine lv_icmp_ge (tgt := 110) hx hb dX0_init_88 (by decide) (fun c => absurd c (by decide +kernel)) (fun _ => ?_)
  refine lv_aload_n hx hb dX0_init_91 rfl (lv_at hl 1 rfl) ?_
  refine k_get X hW inG0 rfl 1 (by decide) fl_X0_20 rfl 0 rfl (v := .ref q2) rfl dX0_init_92 ?_
  refine lv_iload_n hx hb dX0_init_95 rfl (lv_at hl 0 rfl) ?_
  refine k_new (ci := 3) X hW inG3 tyX3 tyX3_ok rfl cl_X0_18 mk_X3 yi_X3_init.2.2 df3 ⟨Nat.le_of_ble_eq_true rfl, Nat.le_of_ble_eq_true rfl⟩ dX0_init_96 (fun q7 H hW => ?_)
  refine lv_dup hx hb dX0_init_99 rfl ?_
  refine kIN (rest := [.ref q7, .int (nI 0), .ref q2]) X hW (c_X3_init l D k q7) yI_X3 lkn_X0_49 ⟨Nat.le_of_ble_eq_true rfl, Nat.le_of_ble_eq_true rfl⟩ (wr := [(b, .inr (0, [.ref q1, .ref q2, .int (nI 0), .int (nI 0), .ref q3, .ref q4, .ref q5, .ref q6])), (q1, .inl (k 0, 4, .inl (va_cpy (SVi 2) oQ 0 0 4))), (q2, .inl (k 1, 3, .inr (.inr (.inr (.inr (fun _ => none)))))), (q3, .inl (k 0, 400, .inl oQ)), (q4, .inl (k 0, 400, .inl oQ)), (q5, .inl (k 0, 400, .inl oQ)), (q6, .inl (k 0, 400, .inl oQ))]) (List.Perm.refl _) hl.1 (Nat.le_of_ble_eq_true rfl) ⟨Nat.le_of_ble_eq_true rfl, Nat.le_of_ble_eq_true rfl⟩ dX0_init_100 (fun w1 H locs hw1 hW => ?_)
  subst hw1
  have hW := hW.eq (w' := [(b, .inr (0, [.ref q1, .ref q2, .int (nI 0), .int (nI 0), .ref q3, .ref q4, .ref q5, .ref q6])), (q1, .inl (k 0, 4, .inl (va_cpy (SVi 2) oQ 0 0 4))), (q2, .inl (k 1, 3, .inr (.inr (.inr (.inr (fun _ => none)))))), (q3, .inl (k 0, 400, .inl oQ)), (q4, .inl (k 0, 400, .inl oQ)), (q5, .inl (k 0, 400, .inl oQ)), (q6, .inl (k 0, 400, .inl oQ)), qC q7 iQ]) rfl
  refine k_aast X hW 2 1 7 3 rfl rfl rfl rfl rfl (by decide) (by decide) dX0_init_103 (w' := [(b, .inr (0, [.ref q1, .ref q2, .int (nI 0), .int (nI 0), .ref q3, .ref q4, .ref q5, .ref q6])), (q1, .inl (k 0, 4, .inl (va_cpy (SVi 2) oQ 0 0 4))), (q2, .inl (k 1, 3, .inr (.inr (.inr (.inr (va_up (fun _ => none) 0 (some q7))))))), (q3, .inl (k 0, 400, .inl oQ)), (q4, .inl (k 0, 400, .inl oQ)), (q5, .inl (k 0, 400, .inl oQ)), (q6, .inl (k 0, 400, .inl oQ)), qC q7 iQ]) rfl (fun H locs hW => ?_)
  refine lv_iinc (v := nI 1) (lv' := [(1, .int (nI 1)), (0, .ref b)]) hx hb dX0_init_104 hl (k := 0) rfl (k_inc _) (by decide) rfl (fun ls hl => ?_)
  refine lv_goto (tgt := 86) hx hb dX0_init_107 (by decide) ?_
  refine lv_iload_n hx hb dX0_init_86 rfl (lv_at hl 0 rfl) ?_
  refine lv_iconst (v := nI 3) hx hb dX0_init_87 (by decide +kernel) ?_
  refine lv_icmp_ge (tgt := 110) hx hb dX0_init_88 (by decide) (fun c => absurd c (by decide +kernel)) (fun _ => ?_)
  refine lv_aload_n hx hb dX0_init_91 rfl (lv_at hl 1 rfl) ?_
  refine k_get X hW inG0 rfl 1 (by decide) fl_X0_20 rfl 0 rfl (v := .ref q2) rfl dX0_init_92 ?_
  refine lv_iload_n hx hb dX0_init_95 rfl (lv_at hl 0 rfl) ?_
  refine k_new (ci := 3) X hW inG3 tyX3 tyX3_ok rfl cl_X0_18 mk_X3 yi_X3_init.2.2 df3 ⟨Nat.le_of_ble_eq_true rfl, Nat.le_of_ble_eq_true rfl⟩ dX0_init_96 (fun q8 H hW => ?_)
  refine lv_dup hx hb dX0_init_99 rfl ?_
  refine kIN (rest := [.ref q8, .int (nI 1), .ref q2]) X hW (c_X3_init l D k q8) yI_X3 lkn_X0_49 ⟨Nat.le_of_ble_eq_true rfl, Nat.le_of_ble_eq_true rfl⟩ (wr := [(b, .inr (0, [.ref q1, .ref q2, .int (nI 0), .int (nI 0), .ref q3, .ref q4, .ref q5, .ref q6])), (q1, .inl (k 0, 4, .inl (va_cpy (SVi 2) oQ 0 0 4))), (q2, .inl (k 1, 3, .inr (.inr (.inr (.inr (va_up (fun _ => none) 0 (some q7))))))), (q3, .inl (k 0, 400, .inl oQ)), (q4, .inl (k 0, 400, .inl oQ)), (q5, .inl (k 0, 400, .inl oQ)), (q6, .inl (k 0, 400, .inl oQ)), qC q7 iQ]) (List.Perm.refl _) hl.1 (Nat.le_of_ble_eq_true rfl) ⟨Nat.le_of_ble_eq_true rfl, Nat.le_of_ble_eq_true rfl⟩ dX0_init_100 (fun w1 H locs hw1 hW => ?_)
  subst hw1
  have hW := hW.eq (w' := [(b, .inr (0, [.ref q1, .ref q2, .int (nI 0), .int (nI 0), .ref q3, .ref q4, .ref q5, .ref q6])), (q1, .inl (k 0, 4, .inl (va_cpy (SVi 2) oQ 0 0 4))), (q2, .inl (k 1, 3, .inr (.inr (.inr (.inr (va_up (fun _ => none) 0 (some q7))))))), (q3, .inl (k 0, 400, .inl oQ)), (q4, .inl (k 0, 400, .inl oQ)), (q5, .inl (k 0, 400, .inl oQ)), (q6, .inl (k 0, 400, .inl oQ)), qC q7 iQ, qC q8 iQ]) rfl
  refine k_aast X hW 2 1 8 3 rfl rfl rfl rfl rfl (by decide) (by decide) dX0_init_103 (w' := [(b, .inr (0, [.ref q1, .ref q2, .int (nI 0), .int (nI 0), .ref q3, .ref q4, .ref q5, .ref q6])), (q1, .inl (k 0, 4, .inl (va_cpy (SVi 2) oQ 0 0 4))), (q2, .inl (k 1, 3, .inr (.inr (.inr (.inr (va_up (va_up (fun _ => none) 0 (some q7)) 1 (some q8))))))), (q3, .inl (k 0, 400, .inl oQ)), (q4, .inl (k 0, 400, .inl oQ)), (q5, .inl (k 0, 400, .inl oQ)), (q6, .inl (k 0, 400, .inl oQ)), qC q7 iQ, qC q8 iQ]) rfl (fun H locs hW => ?_)
  refine lv_iinc (v := nI 2) (lv' := [(1, .int (nI 2)), (0, .ref b)]) hx hb dX0_init_104 hl (k := 0) rfl (k_inc _) (by decide) rfl (fun ls hl => ?_)
  refine lv_goto (tgt := 86) hx hb dX0_init_107 (by decide) ?_
  refine lv_iload_n hx hb dX0_init_86 rfl (lv_at hl 0 rfl) ?_
  refine lv_iconst (v := nI 3) hx hb dX0_init_87 (by decide +kernel) ?_
  refine lv_icmp_ge (tgt := 110) hx hb dX0_init_88 (by decide) (fun c => absurd c (by decide +kernel)) (fun _ => ?_)
  refine lv_aload_n hx hb dX0_init_91 rfl (lv_at hl 1 rfl) ?_
  refine k_get X hW inG0 rfl 1 (by decide) fl_X0_20 rfl 0 rfl (v := .ref q2) rfl dX0_init_92 ?_
  refine lv_iload_n hx hb dX0_init_95 rfl (lv_at hl 0 rfl) ?_
  refine k_new (ci := 3) X hW inG3 tyX3 tyX3_ok rfl cl_X0_18 mk_X3 yi_X3_init.2.2 df3 ⟨Nat.le_of_ble_eq_true rfl, Nat.le_of_ble_eq_true rfl⟩ dX0_init_96 (fun q9 H hW => ?_)
  refine lv_dup hx hb dX0_init_99 rfl ?_
  refine kIN (rest := [.ref q9, .int (nI 2), .ref q2]) X hW (c_X3_init l D k q9) yI_X3 lkn_X0_49 ⟨Nat.le_of_ble_eq_true rfl, Nat.le_of_ble_eq_true rfl⟩ (wr := [(b, .inr (0, [.ref q1, .ref q2, .int (nI 0), .int (nI 0), .ref q3, .ref q4, .ref q5, .ref q6])), (q1, .inl (k 0, 4, .inl (va_cpy (SVi 2) oQ 0 0 4))), (q2, .inl (k 1, 3, .inr (.inr (.inr (.inr (va_up (va_up (fun _ => none) 0 (some q7)) 1 (some q8))))))), (q3, .inl (k 0, 400, .inl oQ)), (q4, .inl (k 0, 400, .inl oQ)), (q5, .inl (k 0, 400, .inl oQ)), (q6, .inl (k 0, 400, .inl oQ)), qC q7 iQ, qC q8 iQ]) (List.Perm.refl _) hl.1 (Nat.le_of_ble_eq_true rfl) ⟨Nat.le_of_ble_eq_true rfl, Nat.le_of_ble_eq_true rfl⟩ dX0_init_100 (fun w1 H locs hw1 hW => ?_)
  subst hw1
  have hW := hW.eq (w' := [(b, .inr (0, [.ref q1, .ref q2, .int (nI 0), .int (nI 0), .ref q3, .ref q4, .ref q5, .ref q6])), (q1, .inl (k 0, 4, .inl (va_cpy (SVi 2) oQ 0 0 4))), (q2, .inl (k 1, 3, .inr (.inr (.inr (.inr (va_up (va_up (fun _ => none) 0 (some q7)) 1 (some q8))))))), (q3, .inl (k 0, 400, .inl oQ)), (q4, .inl (k 0, 400, .inl oQ)), (q5, .inl (k 0, 400, .inl oQ)), (q6, .inl (k 0, 400, .inl oQ)), qC q7 iQ, qC q8 iQ, qC q9 iQ]) rfl
  refine k_aast X hW 2 1 9 3 rfl rfl rfl rfl rfl (by decide) (by decide) dX0_init_103 (w' := [(b, .inr (0, [.ref q1, .ref q2, .int (nI 0), .int (nI 0), .ref q3, .ref q4, .ref q5, .ref q6])), (q1, .inl (k 0, 4, .inl (va_cpy (SVi 2) oQ 0 0 4))), (q2, .inl (k 1, 3, .inr (.inr (.inr (.inr (va_up (va_up (va_up (fun _ => none) 0 (some q7)) 1 (some q8)) 2 (some q9))))))), (q3, .inl (k 0, 400, .inl oQ)), (q4, .inl (k 0, 400, .inl oQ)), (q5, .inl (k 0, 400, .inl oQ)), (q6, .inl (k 0, 400, .inl oQ)), qC q7 iQ, qC q8 iQ, qC q9 iQ]) rfl (fun H locs hW => ?_)
  refine lv_iinc (v := nI 3) (lv' := [(1, .int (nI 3)), (0, .ref b)]) hx hb dX0_init_104 hl (k := 0) rfl (k_inc _) (by decide) rfl (fun ls hl => ?_)
  refine lv_goto (tgt := 86) hx hb dX0_init_107 (by decide) ?_
  refine lv_iload_n hx hb dX0_init_86 rfl (lv_at hl 0 rfl) ?_
  refine lv_iconst (v := nI 3) hx hb dX0_init_87 (by decide +kernel) ?_
  refine lv_icmp_ge (tgt := 110) hx hb dX0_init_88 (by decide) (fun _ => ?_) (fun c => absurd (by decide +kernel) c)
  obtain ⟨a, e0, e1, e2, e3, e4, e5, e6, e7, e8, e9⟩ : ∃ a : Nat → Nat, a 0 = b ∧ a 1 = q1 ∧ a 2 = q2 ∧ a 3 = q3 ∧ a 4 = q4 ∧ a 5 = q5 ∧ a 6 = q6 ∧ a 7 = q7 ∧ a 8 = q8 ∧ a 9 = q9 := ⟨fun j => match j with | 0 => b | 1 => q1 | 2 => q2 | 3 => q3 | 4 => q4 | 5 => q5 | 6 => q6 | 7 => q7 | 8 => q8 | _ => q9, rfl, rfl, rfl, rfl, rfl, rfl, rfl, rfl, rfl, rfl⟩
  subst e0 e1 e2 e3 e4 e5 e6 e7 e8 e9
  have hW := hW.arq 2 (g := fun j => some (a (7 + j))) rfl (fun j hj => by rcases (by omega : j = 0 ∨ j = 1 ∨ j = 2) with rfl | rfl | rfl <;> rfl) (w' := cardW k a iC) rfl
  exact hQ _ _ _ _ _ hW dX0_init_110 ⟨a, rfl, rfl⟩
