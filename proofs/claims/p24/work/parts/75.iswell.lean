/-! isWell() of the law: it answers 1 of a card on which all is well -/
section
variable {p : Program} {l : Launch} {e : Env} {s : State} {m : MethodId} {args : Array Value} {below : List Frame} {meth : Method} {c : Code} {Ts : List Cond} {D : va_G} {k : Nat → ClassId} {P : Nat → Prop} {Q : State → Prop} {B : Nat → Nat} {A0 : Nat → Nat → Nat} {o : OB} {u : CS} {S : Nat → CS} {sv : Nat → Int32} {T : Nat}
set_option maxHeartbeats 4000000 in
set_option maxRecDepth 100000 in
theorem well_rows (X : KX p s m args meth c cL_isWell 12 Ts RL D k P) (h : AT o u S sv) (hw : WL u T) (hT : T ≤ 9999) {row : List Nat} (hR : SR u row) (hn : row.Nodup) (h3 : ∀ x ∈ row, x < 3)
    (kk : ∀ (H : Heap) (locs : List Loc) (ls : Array Slot), KW D P s (OW k B A0 o ++ []) H locs → lv_has ls 12 [(2, .int (nI row.length)), (1, .int (nI 1)), (0, .ref (B 0))] → W p l e (rmD 4) s m args below meth c H locs 0 0 Q (F0 m 157 ls [])) :
    ∀ (r i : Nat), i + r = 3 → ∀ (H : Heap) (locs : List Loc) (ls : Array Slot), KW D P s (OW k B A0 o ++ []) H locs → lv_has ls 12 [(3, .int (nI i)), (2, .int (nI (min i row.length))), (1, .int (nI 1)), (0, .ref (B 0))] → W p l e (rmD 4) s m args below meth c H locs 0 0 Q (F0 m 90 ls []) := by
  have hx := X.hx
  have hb := X.hb
  have hlen := row_le hn h3
  intro r
  induction r with
  | zero =>
    intro i hi H locs ls hW hl
    have hi : i = 3 := by omega
    subst hi
    have em : min 3 row.length = row.length := by omega
    rw [em] at hl
    refine lv_iload_n hx hb dL_isWell_90 rfl (lv_at hl 0 rfl) ?_
    refine lv_iconst (v := nI 3) hx hb dL_isWell_91 (by decide +kernel) ?_
    refine lv_icmp_ge (tgt := 157) hx hb dL_isWell_92 (by decide) (fun _ => ?_) (fun c0 => absurd (Int32.le_refl _) c0)
    exact kk _ _ _ hW (lv_sub hl [1, 2, 3] rfl)
  | succ r ih =>
    intro i hi H locs ls hW hl
    refine lv_iload_n hx hb dL_isWell_90 rfl (lv_at hl 0 rfl) ?_
    refine lv_iconst (v := nI 3) hx hb dL_isWell_91 (by decide +kernel) ?_
    refine lv_icmp_ge (tgt := 157) hx hb dL_isWell_92 (by decide) (fun c0 => absurd c0 (fun z => by rw [nI_leI (by decide) (by omega)] at z; omega)) (fun _ => ?_)
    refine lv_aload_n hx hb dL_isWell_95 rfl (lv_at hl 3 rfl) ?_
    refine lv_iload_n hx hb dL_isWell_96 rfl (lv_at hl 0 rfl) ?_
    by_cases ci : i < row.length
    · have emi : min i row.length = i := by omega
      have emj : min (i + 1) row.length = i + 1 := by omega
      rw [emi] at hl
      obtain ⟨q, hq⟩ : ∃ q, row[i]? = some q := ⟨row[i], List.getElem?_eq_getElem ci⟩
      have hq3 : q < 3 := h3 q (List.mem_of_getElem? hq)
      refine k_o (As := [.int (nI i)]) (rest := []) X hW (A_row h (nI i)) yw_X4_row lk_L_64 ⟨Nat.le_of_ble_eq_true rfl, Nat.le_of_ble_eq_true rfl⟩ rfl hl.1 rfl (Nat.le_of_ble_eq_true rfl) ⟨Nat.zero_le _, Nat.zero_le _⟩ dL_isWell_97 (fun H locs hW => ?_)
      refine k_top (y := nI q) ((row_r (by omega)).trans (queueAt_some hR hn h3 hq)) ?_
      refine lv_istore (lv' := [(4, .int (nI q)), (3, .int (nI i)), (2, .int (nI i)), (1, .int (nI 1)), (0, .ref (B 0))]) hx hb dL_isWell_100 hl (by decide) rfl (fun ls hl => ?_)
      refine lv_iload_n hx hb dL_isWell_102 rfl (lv_at hl 2 rfl) ?_
      refine lv_iload hx hb dL_isWell_103 (lv_at hl 0 rfl) ?_
      refine lv_if_lt (tgt := 112) hx hb dL_isWell_105 (by decide) (fun c0 => absurd c0 (nI_pos (by omega))) (fun _ => ?_)
      refine lv_iconst (v := nI 1) hx hb dL_isWell_108 (by decide +kernel) ?_
      refine lv_goto (tgt := 113) hx hb dL_isWell_109 (by decide) ?_
      refine lv_iadd hx hb dL_isWell_113 ?_
      refine k_top (y := nI (i + 1)) (nI_add _ _) ?_
      refine lv_istore_n (lv' := [(2, .int (nI (i + 1))), (4, .int (nI q)), (3, .int (nI i)), (1, .int (nI 1)), (0, .ref (B 0))]) hx hb dL_isWell_114 rfl hl (by decide) rfl (fun ls hl => ?_)
      refine lv_iload_n hx hb dL_isWell_115 rfl (lv_at hl 3 rfl) ?_
      refine lv_if_eq (tgt := 149) hx hb dL_isWell_116 (by decide) (fun c0 => absurd c0 (by decide +kernel)) (fun _ => ?_)
      refine lv_iload hx hb dL_isWell_119 (lv_at hl 1 rfl) ?_
      refine lv_if_lt (tgt := 135) hx hb dL_isWell_121 (by decide) (fun c0 => absurd c0 (nI_pos (by omega))) (fun _ => ?_)
      refine lv_aload_n hx hb dL_isWell_124 rfl (lv_at hl 4 rfl) ?_
      refine lv_iload hx hb dL_isWell_125 (lv_at hl 1 rfl) ?_
      refine lv_iconst (v := nI 4) hx hb dL_isWell_127 (by decide +kernel) ?_
      refine k_o (As := [.int (nI q), .int (nI 4)]) (rest := []) X hW (A_of h (nI q) (nI 4)) yw_X4_of lk_L_15 ⟨Nat.le_of_ble_eq_true rfl, Nat.le_of_ble_eq_true rfl⟩ rfl hl.1 rfl (Nat.le_of_ble_eq_true rfl) ⟨Nat.zero_le _, Nat.zero_le _⟩ dL_isWell_128 (fun H locs hW => ?_)
      refine k_top (y := nI 1) (by rw [of_r hq3, fact_4, if_neg (fun z => (SR_out hR hq3 hlen).mp z (List.mem_of_getElem? hq))]) ?_
      refine lv_iconst (v := nI 1) hx hb dL_isWell_131 (by decide +kernel) ?_
      refine lv_icmp_ne (tgt := 149) hx hb dL_isWell_132 (by decide) (fun c0 => absurd rfl c0) (fun _ => ?_)
      refine lv_iload hx hb dL_isWell_135 (lv_at hl 1 rfl) ?_
      refine lv_if_ge (tgt := 145) hx hb dL_isWell_137 (by decide) (fun _ => ?_) (fun c0 => absurd (nI_pos' (by omega)) c0)
      refine lv_iconst (v := nI 1) hx hb dL_isWell_145 (by decide +kernel) ?_
      refine lv_goto (tgt := 150) hx hb dL_isWell_146 (by decide) ?_
      refine lv_istore_n (lv' := [(1, .int (nI 1)), (2, .int (nI (i + 1))), (4, .int (nI q)), (3, .int (nI i)), (0, .ref (B 0))]) hx hb dL_isWell_150 rfl hl (by decide) rfl (fun ls hl => ?_)
      refine lv_iinc (v := nI (i + 1)) (lv' := [(3, .int (nI (i + 1))), (1, .int (nI 1)), (2, .int (nI (i + 1))), (4, .int (nI q)), (0, .ref (B 0))]) hx hb dL_isWell_151 hl (k := 3) rfl (k_inc _) (by decide) rfl (fun ls hl => ?_)
      refine lv_goto (tgt := 90) hx hb dL_isWell_154 (by decide) ?_
      refine ih (i + 1) (by omega) _ _ _ hW ?_
      rw [emj]
      exact (lv_sub hl [0, 2, 1, 4] rfl)
    · have emi : min i row.length = row.length := by omega
      have emj : min (i + 1) row.length = row.length := by omega
      rw [emi] at hl
      refine k_o (As := [.int (nI i)]) (rest := []) X hW (A_row h (nI i)) yw_X4_row lk_L_64 ⟨Nat.le_of_ble_eq_true rfl, Nat.le_of_ble_eq_true rfl⟩ rfl hl.1 rfl (Nat.le_of_ble_eq_true rfl) ⟨Nat.zero_le _, Nat.zero_le _⟩ dL_isWell_97 (fun H locs hW => ?_)
      refine k_top (y := (-1)) ((row_r (by omega)).trans (queueAt_none hR hn h3 (List.getElem?_eq_none (by omega)) (by omega))) ?_
      refine lv_istore (lv' := [(4, .int (-1)), (3, .int (nI i)), (2, .int (nI row.length)), (1, .int (nI 1)), (0, .ref (B 0))]) hx hb dL_isWell_100 hl (by decide) rfl (fun ls hl => ?_)
      refine lv_iload_n hx hb dL_isWell_102 rfl (lv_at hl 2 rfl) ?_
      refine lv_iload hx hb dL_isWell_103 (lv_at hl 0 rfl) ?_
      refine lv_if_lt (tgt := 112) hx hb dL_isWell_105 (by decide) (fun _ => ?_) (fun c0 => absurd (by decide) c0)
      refine lv_iconst (v := nI 0) hx hb dL_isWell_112 (by decide +kernel) ?_
      refine lv_iadd hx hb dL_isWell_113 ?_
      refine k_top (y := nI row.length) (by rw [nI_add, Nat.add_zero]) ?_
      refine lv_istore_n (lv' := [(2, .int (nI row.length)), (4, .int (-1)), (3, .int (nI i)), (1, .int (nI 1)), (0, .ref (B 0))]) hx hb dL_isWell_114 rfl hl (by decide) rfl (fun ls hl => ?_)
      refine lv_iload_n hx hb dL_isWell_115 rfl (lv_at hl 3 rfl) ?_
      refine lv_if_eq (tgt := 149) hx hb dL_isWell_116 (by decide) (fun c0 => absurd c0 (by decide +kernel)) (fun _ => ?_)
      refine lv_iload hx hb dL_isWell_119 (lv_at hl 1 rfl) ?_
      refine lv_if_lt (tgt := 135) hx hb dL_isWell_121 (by decide) (fun _ => ?_) (fun c0 => absurd (by decide) c0)
      refine lv_iload hx hb dL_isWell_135 (lv_at hl 1 rfl) ?_
      refine lv_if_ge (tgt := 145) hx hb dL_isWell_137 (by decide) (fun c0 => absurd c0 (by decide)) (fun _ => ?_)
      refine lv_iload_n hx hb dL_isWell_140 rfl (lv_at hl 2 rfl) ?_
      refine lv_iload_n hx hb dL_isWell_141 rfl (lv_at hl 0 rfl) ?_
      refine lv_icmp_lt (tgt := 149) hx hb dL_isWell_142 (by decide) (fun c0 => absurd c0 (fun z => by rw [nI_ltI (by omega) (by omega)] at z; omega)) (fun _ => ?_)
      refine lv_iconst (v := nI 1) hx hb dL_isWell_145 (by decide +kernel) ?_
      refine lv_goto (tgt := 150) hx hb dL_isWell_146 (by decide) ?_
      refine lv_istore_n (lv' := [(1, .int (nI 1)), (2, .int (nI row.length)), (4, .int (-1)), (3, .int (nI i)), (0, .ref (B 0))]) hx hb dL_isWell_150 rfl hl (by decide) rfl (fun ls hl => ?_)
      refine lv_iinc (v := nI (i + 1)) (lv' := [(3, .int (nI (i + 1))), (1, .int (nI 1)), (2, .int (nI row.length)), (4, .int (-1)), (0, .ref (B 0))]) hx hb dL_isWell_151 hl (k := 3) rfl (k_inc _) (by decide) rfl (fun ls hl => ?_)
      refine lv_goto (tgt := 90) hx hb dL_isWell_154 (by decide) ?_
      refine ih (i + 1) (by omega) _ _ _ hW ?_
      rw [emj]
      exact (lv_sub hl [0, 2, 1, 4] rfl)
set_option maxHeartbeats 4000000 in
set_option maxRecDepth 100000 in
theorem well_frames (X : KX p s m args meth c cL_isWell 12 Ts RL D k P) (h : AT o u S sv) (hw : WL u T) (hT : T ≤ 9999) {q : Nat} (hq : q < 3)
    (kk : ∀ (H : Heap) (locs : List Loc) (ls : Array Slot) (wt lg : Int32) (cI : Nat) (old last : Int32), INVF u q (cn u) 0 wt lg cI old last → KW D P s (OW k B A0 o ++ []) H locs → lv_has ls 12 [(7, .int old), (6, .int (nI cI)), (5, .int lg), (4, .int wt), (3, .int (nI q)), (1, .int (nI 1)), (0, .ref (B 0))] → W p l e (rmD 4) s m args below meth c H locs 0 0 Q (F0 m 396 ls [])) :
    ∀ (i : Nat), i ≤ cn u → ∀ (H : Heap) (locs : List Loc) (ls : Array Slot) (wt lg : Int32) (cI : Nat) (old last : Int32), INVF u q (cn u) i wt lg cI old last → KW D P s (OW k B A0 o ++ []) H locs → lv_has ls 12 [(9, .int (nI i - nI 1)), (8, .int last), (7, .int old), (6, .int (nI cI)), (5, .int lg), (4, .int wt), (3, .int (nI q)), (1, .int (nI 1)), (0, .ref (B 0))] → W p l e (rmD 4) s m args below meth c H locs 0 0 Q (F0 m 209 ls []) := by
  have hx := X.hx
  have hb := X.hb
  have hM := hw.1
  have hc := hM.2.1
  have hT0 : u 0 2 = nI T := hw.2.1
  intro i
  induction i with
  | zero =>
    intro _ H locs ls wt lg cI old last hI hW hl
    refine lv_iload hx hb dL_isWell_209 (lv_at hl 0 rfl) ?_
    refine lv_if_lt (tgt := 396) hx hb dL_isWell_211 (by decide) (fun _ => ?_) (fun c0 => absurd (by decide +kernel) c0)
    exact kk _ _ _ _ _ _ _ _ hI hW (lv_sub hl [2, 3, 4, 5, 6, 7, 8] rfl)
  | succ i ih =>
    intro hi H locs ls wt lg cI old last hI hW hl
    have e9 : nI (i + 1) - nI 1 = nI i := by rw [pk_sub (by omega), Nat.add_sub_cancel]
    rw [e9] at hl
    obtain ⟨⟨-, hst⟩, fc, ec, hcT, hst1⟩ := hw.2.2.2.1 i (by omega)
    have hord := (hw.2.2.2.2.1 q hq).2.2.2.2.2.2.2.2.2.2
    refine lv_iload hx hb dL_isWell_209 (lv_at hl 0 rfl) ?_
    refine lv_if_lt (tgt := 396) hx hb dL_isWell_211 (by decide) (fun c0 => absurd c0 (nI_pos (by omega))) (fun _ => ?_)
    refine lv_aload_n hx hb dL_isWell_214 rfl (lv_at hl 8 rfl) ?_
    refine lv_iload hx hb dL_isWell_215 (lv_at hl 0 rfl) ?_
    refine lv_iconst (v := nI 0) hx hb dL_isWell_217 (by decide +kernel) ?_
    refine k_o (As := [.int (nI i), .int (nI 0)]) (rest := []) X hW (A_frame h hM (nI i) (nI 0)) yw_X4_frame lk_L_91 ⟨Nat.le_of_ble_eq_true rfl, Nat.le_of_ble_eq_true rfl⟩ rfl hl.1 rfl (Nat.le_of_ble_eq_true rfl) ⟨Nat.zero_le _, Nat.zero_le _⟩ dL_isWell_218 (fun H locs hW => ?_)
    refine k_top (y := u 2 i) ((fr_r hM (by omega)).trans (fr_0 u i)) ?_
    refine lv_iconst (v := nI 3) hx hb dL_isWell_221 (by decide +kernel) ?_
    refine lv_irem hx hb dL_isWell_222 (by decide +kernel) ?_
    refine k_top (y := qof (u 2 i)) rfl ?_
    refine lv_iload_n hx hb dL_isWell_223 rfl (lv_at hl 6 rfl) ?_
    refine lv_icmp_ne (tgt := 390) hx hb dL_isWell_224 (by decide) (fun cq => ?_) (fun cq => ?_)
    · refine lv_iinc (v := nI i - nI 1) (lv' := [(9, .int (nI i - nI 1)), (8, .int last), (7, .int old), (6, .int (nI cI)), (5, .int lg), (4, .int wt), (3, .int (nI q)), (1, .int (nI 1)), (0, .ref (B 0))]) hx hb dL_isWell_390 hl (k := 0) rfl (dec1 i) (by decide) rfl (fun ls hl => ?_)
      refine lv_goto (tgt := 209) hx hb dL_isWell_393 (by decide) ?_
      exact ih (by omega) _ _ _ _ _ _ _ _ (INVF_skip hI (fun z => cq z.2) (fun z => cq z.2)) hW (lv_sub hl [0, 1, 2, 3, 4, 5, 6, 7, 8] rfl)
    · rcases hst with hs | hs | hs
      · refine lv_aload_n hx hb dL_isWell_227 rfl (lv_at hl 8 rfl) ?_
        refine lv_iload hx hb dL_isWell_228 (lv_at hl 0 rfl) ?_
        refine lv_iconst (v := nI 2) hx hb dL_isWell_230 (by decide +kernel) ?_
        refine k_o (As := [.int (nI i), .int (nI 2)]) (rest := []) X hW (A_frame h hM (nI i) (nI 2)) yw_X4_frame lk_L_91 ⟨Nat.le_of_ble_eq_true rfl, Nat.le_of_ble_eq_true rfl⟩ rfl hl.1 rfl (Nat.le_of_ble_eq_true rfl) ⟨Nat.zero_le _, Nat.zero_le _⟩ dL_isWell_231 (fun H locs hW => ?_)
        refine k_top (y := nI 0) (((fr_r hM (by omega)).trans (fr_2 u i)).trans hs) ?_
        refine lv_istore (lv' := [(10, .int (nI 0)), (9, .int (nI i)), (8, .int last), (7, .int old), (6, .int (nI cI)), (5, .int lg), (4, .int wt), (3, .int (nI q)), (1, .int (nI 1)), (0, .ref (B 0))]) hx hb dL_isWell_234 hl (by decide) rfl (fun ls hl => ?_)
        refine lv_aload_n hx hb dL_isWell_236 rfl (lv_at hl 9 rfl) ?_
        refine lv_iload hx hb dL_isWell_237 (lv_at hl 1 rfl) ?_
        refine lv_iconst (v := nI 3) hx hb dL_isWell_239 (by decide +kernel) ?_
        refine k_o (As := [.int (nI i), .int (nI 3)]) (rest := []) X hW (A_frame h hM (nI i) (nI 3)) yw_X4_frame lk_L_91 ⟨Nat.le_of_ble_eq_true rfl, Nat.le_of_ble_eq_true rfl⟩ rfl hl.1 rfl (Nat.le_of_ble_eq_true rfl) ⟨Nat.zero_le _, Nat.zero_le _⟩ dL_isWell_240 (fun H locs hW => ?_)
        refine k_top (y := nI (T - fc)) ((fr_r hM (by omega)).trans ((fr_3 u i).trans (by rw [m_X0_waitOf_r, hs, if_neg (by decide +kernel), if_neg (by decide +kernel), hT0, ec, pk_sub hcT]))) ?_
        refine lv_istore (lv' := [(11, .int (nI (T - fc))), (10, .int (nI 0)), (9, .int (nI i)), (8, .int last), (7, .int old), (6, .int (nI cI)), (5, .int lg), (4, .int wt), (3, .int (nI q)), (1, .int (nI 1)), (0, .ref (B 0))]) hx hb dL_isWell_243 hl (by decide) rfl (fun ls hl => ?_)
        refine lv_iload hx hb dL_isWell_245 (lv_at hl 7 rfl) ?_
        refine lv_iload hx hb dL_isWell_247 (lv_at hl 1 rfl) ?_
        refine lv_iconst (v := nI 1) hx hb dL_isWell_249 (by decide +kernel) ?_
        refine lv_icmp_ne (tgt := 258) hx hb dL_isWell_250 (by decide) (fun _ => ?_) (fun c0 => absurd c0 (by decide +kernel))
        refine lv_iconst (v := nI 0) hx hb dL_isWell_258 (by decide +kernel) ?_
        refine lv_iadd hx hb dL_isWell_259 ?_
        refine k_top (y := wt) (Int32.add_zero _) ?_
        refine lv_istore (lv' := [(4, .int wt), (11, .int (nI (T - fc))), (10, .int (nI 0)), (9, .int (nI i)), (8, .int last), (7, .int old), (6, .int (nI cI)), (5, .int lg), (3, .int (nI q)), (1, .int (nI 1)), (0, .ref (B 0))]) hx hb dL_isWell_260 hl (by decide) rfl (fun ls hl => ?_)
        refine lv_iload hx hb dL_isWell_262 (lv_at hl 2 rfl) ?_
        refine lv_iconst (v := nI 1) hx hb dL_isWell_264 (by decide +kernel) ?_
        refine lv_icmp_ne (tgt := 280) hx hb dL_isWell_265 (by decide) (fun _ => ?_) (fun c0 => absurd c0 (by decide +kernel))
        refine lv_iload hx hb dL_isWell_280 (lv_at hl 7 rfl) ?_
        refine lv_istore (lv' := [(5, .int lg), (4, .int wt), (11, .int (nI (T - fc))), (10, .int (nI 0)), (9, .int (nI i)), (8, .int last), (7, .int old), (6, .int (nI cI)), (3, .int (nI q)), (1, .int (nI 1)), (0, .ref (B 0))]) hx hb dL_isWell_282 hl (by decide) rfl (fun ls hl => ?_)
        refine lv_iload hx hb dL_isWell_284 (lv_at hl 7 rfl) ?_
        refine lv_iload hx hb dL_isWell_286 (lv_at hl 3 rfl) ?_
        refine lv_if_ne (tgt := 295) hx hb dL_isWell_288 (by decide) (fun c0 => absurd rfl c0) (fun _ => ?_)
        refine lv_iconst (v := nI 1) hx hb dL_isWell_291 (by decide +kernel) ?_
        refine lv_goto (tgt := 296) hx hb dL_isWell_292 (by decide) ?_
        refine lv_iadd hx hb dL_isWell_296 ?_
        refine k_top (y := nI (cI + 1)) (nI_add _ _) ?_
        refine lv_istore (lv' := [(6, .int (nI (cI + 1))), (5, .int lg), (4, .int wt), (11, .int (nI (T - fc))), (10, .int (nI 0)), (9, .int (nI i)), (8, .int last), (7, .int old), (3, .int (nI q)), (1, .int (nI 1)), (0, .ref (B 0))]) hx hb dL_isWell_297 hl (by decide) rfl (fun ls hl => ?_)
        refine lv_iload hx hb dL_isWell_299 (lv_at hl 4 rfl) ?_
        refine lv_if_ne (tgt := 309) hx hb dL_isWell_301 (by decide) (fun c0 => absurd rfl c0) (fun _ => ?_)
        refine lv_iload hx hb dL_isWell_304 (lv_at hl 5 rfl) ?_
        refine lv_goto (tgt := 311) hx hb dL_isWell_306 (by decide) ?_
        refine lv_istore (lv' := [(7, .int (nI i)), (6, .int (nI (cI + 1))), (5, .int lg), (4, .int wt), (11, .int (nI (T - fc))), (10, .int (nI 0)), (9, .int (nI i)), (8, .int last), (3, .int (nI q)), (1, .int (nI 1)), (0, .ref (B 0))]) hx hb dL_isWell_311 hl (by decide) rfl (fun ls hl => ?_)
        refine lv_iload_n hx hb dL_isWell_313 rfl (lv_at hl 9 rfl) ?_
        refine lv_if_eq (tgt := 373) hx hb dL_isWell_314 (by decide) (fun c0 => absurd c0 (by decide +kernel)) (fun _ => ?_)
        refine lv_iload hx hb dL_isWell_317 (lv_at hl 5 rfl) ?_
        refine lv_if_ne (tgt := 328) hx hb dL_isWell_319 (by decide) (fun c0 => absurd rfl c0) (fun _ => ?_)
        refine lv_iload hx hb dL_isWell_322 (lv_at hl 7 rfl) ?_
        refine lv_iconst (v := nI 1) hx hb dL_isWell_324 (by decide +kernel) ?_
        refine lv_icmp_eq (tgt := 373) hx hb dL_isWell_325 (by decide) (fun c0 => absurd c0 (fun z => by obtain ⟨j, j1, j2, j3⟩ := hI.2.2.2.2 z; exact hord i j (by omega) j2 ⟨hs, cq⟩ j3)) (fun _ => ?_)
        refine lv_aload_n hx hb dL_isWell_328 rfl (lv_at hl 10 rfl) ?_
        refine lv_iload hx hb dL_isWell_329 (lv_at hl 6 rfl) ?_
        refine lv_iconst (v := nI 1) hx hb dL_isWell_331 (by decide +kernel) ?_
        refine k_o (As := [.int (nI i), .int (nI 1)]) (rest := []) X hW (A_frame h hM (nI i) (nI 1)) yw_X4_frame lk_L_91 ⟨Nat.le_of_ble_eq_true rfl, Nat.le_of_ble_eq_true rfl⟩ rfl hl.1 rfl (Nat.le_of_ble_eq_true rfl) ⟨Nat.zero_le _, Nat.zero_le _⟩ dL_isWell_332 (fun H locs hW => ?_)
        refine k_top (y := nI fc) ((fr_r hM (by omega)).trans ((fr_1 u i).trans ec)) ?_
        refine lv_aload_n hx hb dL_isWell_335 rfl (lv_at hl 10 rfl) ?_
        refine lv_iconst (v := nI 0) hx hb dL_isWell_336 (by decide +kernel) ?_
        refine k_o (As := [.int (nI 0)]) (rest := [.int (nI fc)]) X hW (A_count h (j := 0) (by decide)) yw_X4_count lk_L_24 ⟨Nat.le_of_ble_eq_true rfl, Nat.le_of_ble_eq_true rfl⟩ rfl hl.1 rfl (Nat.le_of_ble_eq_true rfl) ⟨Nat.zero_le _, Nat.zero_le _⟩ dL_isWell_337 (fun H locs hW => ?_)
        refine k_top (y := nI T) ((ctr_0 u).trans hT0) ?_
        refine lv_icmp_gt (tgt := 373) hx hb dL_isWell_340 (by decide) (fun c0 => absurd c0 (fun z => by rw [nI_ltI (by omega) (by omega)] at z; omega)) (fun _ => ?_)
        refine lv_iload hx hb dL_isWell_343 (lv_at hl 5 rfl) ?_
        refine lv_iconst (v := nI 2) hx hb dL_isWell_345 (by decide +kernel) ?_
        refine lv_icmp_ne (tgt := 353) hx hb dL_isWell_346 (by decide) (fun _ => ?_) (fun c0 => absurd c0 (by decide +kernel))
        refine lv_iconst (v := nI 0) hx hb dL_isWell_353 (by decide +kernel) ?_
        refine lv_iload hx hb dL_isWell_354 (lv_at hl 4 rfl) ?_
        refine lv_bipush (v := (-6)) hx hb dL_isWell_356 (by decide +kernel) ?_
        refine lv_icmp_ne (tgt := 365) hx hb dL_isWell_358 (by decide) (fun _ => ?_) (fun c0 => absurd c0 (k_neg (by omega) (by decide)))
        refine lv_iconst (v := nI 0) hx hb dL_isWell_365 (by decide +kernel) ?_
        refine lv_icmp_ne (tgt := 373) hx hb dL_isWell_366 (by decide) (fun c0 => absurd rfl c0) (fun _ => ?_)
        refine lv_iconst (v := nI 1) hx hb dL_isWell_369 (by decide +kernel) ?_
        refine lv_goto (tgt := 374) hx hb dL_isWell_370 (by decide) ?_
        refine lv_istore_n (lv' := [(1, .int (nI 1)), (7, .int (nI i)), (6, .int (nI (cI + 1))), (5, .int lg), (4, .int wt), (11, .int (nI (T - fc))), (10, .int (nI 0)), (9, .int (nI i)), (8, .int last), (3, .int (nI q)), (0, .ref (B 0))]) hx hb dL_isWell_374 rfl hl (by decide) rfl (fun ls hl => ?_)
        refine lv_iload hx hb dL_isWell_375 (lv_at hl 6 rfl) ?_
        refine lv_iconst (v := nI 2) hx hb dL_isWell_377 (by decide +kernel) ?_
        refine lv_icmp_ne (tgt := 386) hx hb dL_isWell_378 (by decide) (fun _ => ?_) (fun c0 => absurd c0 (by decide +kernel))
        refine lv_iload hx hb dL_isWell_386 (lv_at hl 6 rfl) ?_
        refine lv_istore (lv' := [(8, .int (nI 0)), (1, .int (nI 1)), (7, .int (nI i)), (6, .int (nI (cI + 1))), (5, .int lg), (4, .int wt), (11, .int (nI (T - fc))), (10, .int (nI 0)), (9, .int (nI i)), (3, .int (nI q)), (0, .ref (B 0))]) hx hb dL_isWell_388 hl (by decide) rfl (fun ls hl => ?_)
        refine lv_iinc (v := nI i - nI 1) (lv' := [(9, .int (nI i - nI 1)), (8, .int (nI 0)), (1, .int (nI 1)), (7, .int (nI i)), (6, .int (nI (cI + 1))), (5, .int lg), (4, .int wt), (11, .int (nI (T - fc))), (10, .int (nI 0)), (3, .int (nI q)), (0, .ref (B 0))]) hx hb dL_isWell_390 hl (k := 8) rfl (dec1 i) (by decide) rfl (fun ls hl => ?_)
        refine lv_goto (tgt := 209) hx hb dL_isWell_393 (by decide) ?_
        exact ih (by omega) _ _ _ _ _ _ _ _ (INVF_st0 hI (by omega) ⟨hs, cq⟩) hW (lv_sub hl [0, 1, 3, 4, 5, 6, 9, 2, 10] rfl)
      · obtain ⟨fd, ed, hcd, hdT⟩ := hst1 hs
        refine lv_aload_n hx hb dL_isWell_227 rfl (lv_at hl 8 rfl) ?_
        refine lv_iload hx hb dL_isWell_228 (lv_at hl 0 rfl) ?_
        refine lv_iconst (v := nI 2) hx hb dL_isWell_230 (by decide +kernel) ?_
        refine k_o (As := [.int (nI i), .int (nI 2)]) (rest := []) X hW (A_frame h hM (nI i) (nI 2)) yw_X4_frame lk_L_91 ⟨Nat.le_of_ble_eq_true rfl, Nat.le_of_ble_eq_true rfl⟩ rfl hl.1 rfl (Nat.le_of_ble_eq_true rfl) ⟨Nat.zero_le _, Nat.zero_le _⟩ dL_isWell_231 (fun H locs hW => ?_)
        refine k_top (y := nI 1) (((fr_r hM (by omega)).trans (fr_2 u i)).trans hs) ?_
        refine lv_istore (lv' := [(10, .int (nI 1)), (9, .int (nI i)), (8, .int last), (7, .int old), (6, .int (nI cI)), (5, .int lg), (4, .int wt), (3, .int (nI q)), (1, .int (nI 1)), (0, .ref (B 0))]) hx hb dL_isWell_234 hl (by decide) rfl (fun ls hl => ?_)
        refine lv_aload_n hx hb dL_isWell_236 rfl (lv_at hl 9 rfl) ?_
        refine lv_iload hx hb dL_isWell_237 (lv_at hl 1 rfl) ?_
        refine lv_iconst (v := nI 3) hx hb dL_isWell_239 (by decide +kernel) ?_
        refine k_o (As := [.int (nI i), .int (nI 3)]) (rest := []) X hW (A_frame h hM (nI i) (nI 3)) yw_X4_frame lk_L_91 ⟨Nat.le_of_ble_eq_true rfl, Nat.le_of_ble_eq_true rfl⟩ rfl hl.1 rfl (Nat.le_of_ble_eq_true rfl) ⟨Nat.zero_le _, Nat.zero_le _⟩ dL_isWell_240 (fun H locs hW => ?_)
        refine k_top (y := nI (fd - fc)) ((fr_r hM (by omega)).trans ((fr_3 u i).trans (by rw [m_X0_waitOf_r, hs, if_neg (by decide +kernel), if_pos rfl, ed, ec, pk_sub hcd]))) ?_
        refine lv_istore (lv' := [(11, .int (nI (fd - fc))), (10, .int (nI 1)), (9, .int (nI i)), (8, .int last), (7, .int old), (6, .int (nI cI)), (5, .int lg), (4, .int wt), (3, .int (nI q)), (1, .int (nI 1)), (0, .ref (B 0))]) hx hb dL_isWell_243 hl (by decide) rfl (fun ls hl => ?_)
        refine lv_iload hx hb dL_isWell_245 (lv_at hl 7 rfl) ?_
        refine lv_iload hx hb dL_isWell_247 (lv_at hl 1 rfl) ?_
        refine lv_iconst (v := nI 1) hx hb dL_isWell_249 (by decide +kernel) ?_
        refine lv_icmp_ne (tgt := 258) hx hb dL_isWell_250 (by decide) (fun c0 => absurd rfl c0) (fun _ => ?_)
        refine lv_iload hx hb dL_isWell_253 (lv_at hl 0 rfl) ?_
        refine lv_goto (tgt := 259) hx hb dL_isWell_255 (by decide) ?_
        refine lv_iadd hx hb dL_isWell_259 ?_
        refine lv_istore (lv' := [(4, .int (wt + (nI (fd - fc)))), (11, .int (nI (fd - fc))), (10, .int (nI 1)), (9, .int (nI i)), (8, .int last), (7, .int old), (6, .int (nI cI)), (5, .int lg), (3, .int (nI q)), (1, .int (nI 1)), (0, .ref (B 0))]) hx hb dL_isWell_260 hl (by decide) rfl (fun ls hl => ?_)
        refine lv_iload hx hb dL_isWell_262 (lv_at hl 2 rfl) ?_
        refine lv_iconst (v := nI 1) hx hb dL_isWell_264 (by decide +kernel) ?_
        refine lv_icmp_ne (tgt := 280) hx hb dL_isWell_265 (by decide) (fun c0 => absurd rfl c0) (fun _ => ?_)
        refine lv_iload hx hb dL_isWell_268 (lv_at hl 1 rfl) ?_
        refine lv_iload hx hb dL_isWell_270 (lv_at hl 7 rfl) ?_
        refine lv_icmp_le (tgt := 280) hx hb dL_isWell_272 (by decide) (fun cm => ?_) (fun cm => ?_)
        · refine lv_iload hx hb dL_isWell_280 (lv_at hl 7 rfl) ?_
          refine lv_istore (lv' := [(5, .int lg), (4, .int (wt + (nI (fd - fc)))), (11, .int (nI (fd - fc))), (10, .int (nI 1)), (9, .int (nI i)), (8, .int last), (7, .int old), (6, .int (nI cI)), (3, .int (nI q)), (1, .int (nI 1)), (0, .ref (B 0))]) hx hb dL_isWell_282 hl (by decide) rfl (fun ls hl => ?_)
          refine lv_iload hx hb dL_isWell_284 (lv_at hl 7 rfl) ?_
          refine lv_iload hx hb dL_isWell_286 (lv_at hl 3 rfl) ?_
          refine lv_if_ne (tgt := 295) hx hb dL_isWell_288 (by decide) (fun _ => ?_) (fun c0 => absurd c0 (by decide +kernel))
          refine lv_iconst (v := nI 0) hx hb dL_isWell_295 (by decide +kernel) ?_
          refine lv_iadd hx hb dL_isWell_296 ?_
          refine k_top (y := nI cI) (by rw [nI_add, Nat.add_zero]) ?_
          refine lv_istore (lv' := [(6, .int (nI cI)), (5, .int lg), (4, .int (wt + (nI (fd - fc)))), (11, .int (nI (fd - fc))), (10, .int (nI 1)), (9, .int (nI i)), (8, .int last), (7, .int old), (3, .int (nI q)), (1, .int (nI 1)), (0, .ref (B 0))]) hx hb dL_isWell_297 hl (by decide) rfl (fun ls hl => ?_)
          refine lv_iload hx hb dL_isWell_299 (lv_at hl 4 rfl) ?_
          refine lv_if_ne (tgt := 309) hx hb dL_isWell_301 (by decide) (fun _ => ?_) (fun c0 => absurd c0 (by decide +kernel))
          refine lv_iload hx hb dL_isWell_309 (lv_at hl 7 rfl) ?_
          refine lv_istore (lv' := [(7, .int old), (6, .int (nI cI)), (5, .int lg), (4, .int (wt + (nI (fd - fc)))), (11, .int (nI (fd - fc))), (10, .int (nI 1)), (9, .int (nI i)), (8, .int last), (3, .int (nI q)), (1, .int (nI 1)), (0, .ref (B 0))]) hx hb dL_isWell_311 hl (by decide) rfl (fun ls hl => ?_)
          refine lv_iload_n hx hb dL_isWell_313 rfl (lv_at hl 9 rfl) ?_
          refine lv_if_eq (tgt := 373) hx hb dL_isWell_314 (by decide) (fun c0 => absurd c0 (by decide +kernel)) (fun _ => ?_)
          refine lv_iload hx hb dL_isWell_317 (lv_at hl 5 rfl) ?_
          refine lv_if_ne (tgt := 328) hx hb dL_isWell_319 (by decide) (fun _ => ?_) (fun c0 => absurd c0 (by decide +kernel))
          refine lv_aload_n hx hb dL_isWell_328 rfl (lv_at hl 10 rfl) ?_
          refine lv_iload hx hb dL_isWell_329 (lv_at hl 6 rfl) ?_
          refine lv_iconst (v := nI 1) hx hb dL_isWell_331 (by decide +kernel) ?_
          refine k_o (As := [.int (nI i), .int (nI 1)]) (rest := []) X hW (A_frame h hM (nI i) (nI 1)) yw_X4_frame lk_L_91 ⟨Nat.le_of_ble_eq_true rfl, Nat.le_of_ble_eq_true rfl⟩ rfl hl.1 rfl (Nat.le_of_ble_eq_true rfl) ⟨Nat.zero_le _, Nat.zero_le _⟩ dL_isWell_332 (fun H locs hW => ?_)
          refine k_top (y := nI fc) ((fr_r hM (by omega)).trans ((fr_1 u i).trans ec)) ?_
          refine lv_aload_n hx hb dL_isWell_335 rfl (lv_at hl 10 rfl) ?_
          refine lv_iconst (v := nI 0) hx hb dL_isWell_336 (by decide +kernel) ?_
          refine k_o (As := [.int (nI 0)]) (rest := [.int (nI fc)]) X hW (A_count h (j := 0) (by decide)) yw_X4_count lk_L_24 ⟨Nat.le_of_ble_eq_true rfl, Nat.le_of_ble_eq_true rfl⟩ rfl hl.1 rfl (Nat.le_of_ble_eq_true rfl) ⟨Nat.zero_le _, Nat.zero_le _⟩ dL_isWell_337 (fun H locs hW => ?_)
          refine k_top (y := nI T) ((ctr_0 u).trans hT0) ?_
          refine lv_icmp_gt (tgt := 373) hx hb dL_isWell_340 (by decide) (fun c0 => absurd c0 (fun z => by rw [nI_ltI (by omega) (by omega)] at z; omega)) (fun _ => ?_)
          refine lv_iload hx hb dL_isWell_343 (lv_at hl 5 rfl) ?_
          refine lv_iconst (v := nI 2) hx hb dL_isWell_345 (by decide +kernel) ?_
          refine lv_icmp_ne (tgt := 353) hx hb dL_isWell_346 (by decide) (fun _ => ?_) (fun c0 => absurd c0 (by decide +kernel))
          refine lv_iconst (v := nI 0) hx hb dL_isWell_353 (by decide +kernel) ?_
          refine lv_iload hx hb dL_isWell_354 (lv_at hl 4 rfl) ?_
          refine lv_bipush (v := (-6)) hx hb dL_isWell_356 (by decide +kernel) ?_
          refine lv_icmp_ne (tgt := 365) hx hb dL_isWell_358 (by decide) (fun _ => ?_) (fun c0 => absurd c0 (k_neg (by omega) (by decide)))
          refine lv_iconst (v := nI 0) hx hb dL_isWell_365 (by decide +kernel) ?_
          refine lv_icmp_ne (tgt := 373) hx hb dL_isWell_366 (by decide) (fun c0 => absurd rfl c0) (fun _ => ?_)
          refine lv_iconst (v := nI 1) hx hb dL_isWell_369 (by decide +kernel) ?_
          refine lv_goto (tgt := 374) hx hb dL_isWell_370 (by decide) ?_
          refine lv_istore_n (lv' := [(1, .int (nI 1)), (7, .int old), (6, .int (nI cI)), (5, .int lg), (4, .int (wt + (nI (fd - fc)))), (11, .int (nI (fd - fc))), (10, .int (nI 1)), (9, .int (nI i)), (8, .int last), (3, .int (nI q)), (0, .ref (B 0))]) hx hb dL_isWell_374 rfl hl (by decide) rfl (fun ls hl => ?_)
          refine lv_iload hx hb dL_isWell_375 (lv_at hl 6 rfl) ?_
          refine lv_iconst (v := nI 2) hx hb dL_isWell_377 (by decide +kernel) ?_
          refine lv_icmp_ne (tgt := 386) hx hb dL_isWell_378 (by decide) (fun _ => ?_) (fun c0 => absurd c0 (by decide +kernel))
          refine lv_iload hx hb dL_isWell_386 (lv_at hl 6 rfl) ?_
          refine lv_istore (lv' := [(8, .int (nI 1)), (1, .int (nI 1)), (7, .int old), (6, .int (nI cI)), (5, .int lg), (4, .int (wt + (nI (fd - fc)))), (11, .int (nI (fd - fc))), (10, .int (nI 1)), (9, .int (nI i)), (3, .int (nI q)), (0, .ref (B 0))]) hx hb dL_isWell_388 hl (by decide) rfl (fun ls hl => ?_)
          have hI2 := INVF_st1 hI (by omega) ⟨hs, cq⟩ (w := nI (fd - fc)) (by rw [ed, ec, pk_sub hcd])
          rw [mx, if_neg (Int32.not_lt.mpr cm)] at hI2
          refine lv_iinc (v := nI i - nI 1) (lv' := [(9, .int (nI i - nI 1)), (8, .int (nI 1)), (1, .int (nI 1)), (7, .int old), (6, .int (nI cI)), (5, .int lg), (4, .int (wt + (nI (fd - fc)))), (11, .int (nI (fd - fc))), (10, .int (nI 1)), (3, .int (nI q)), (0, .ref (B 0))]) hx hb dL_isWell_390 hl (k := 8) rfl (dec1 i) (by decide) rfl (fun ls hl => ?_)
          refine lv_goto (tgt := 209) hx hb dL_isWell_393 (by decide) ?_
          exact ih (by omega) _ _ _ _ _ _ _ _ hI2 hW (lv_sub hl [0, 1, 3, 4, 5, 6, 9, 2, 10] rfl)
        · refine lv_iload hx hb dL_isWell_275 (lv_at hl 1 rfl) ?_
          refine lv_goto (tgt := 282) hx hb dL_isWell_277 (by decide) ?_
          refine lv_istore (lv' := [(5, .int (nI (fd - fc))), (4, .int (wt + (nI (fd - fc)))), (11, .int (nI (fd - fc))), (10, .int (nI 1)), (9, .int (nI i)), (8, .int last), (7, .int old), (6, .int (nI cI)), (3, .int (nI q)), (1, .int (nI 1)), (0, .ref (B 0))]) hx hb dL_isWell_282 hl (by decide) rfl (fun ls hl => ?_)
          refine lv_iload hx hb dL_isWell_284 (lv_at hl 7 rfl) ?_
          refine lv_iload hx hb dL_isWell_286 (lv_at hl 3 rfl) ?_
          refine lv_if_ne (tgt := 295) hx hb dL_isWell_288 (by decide) (fun _ => ?_) (fun c0 => absurd c0 (by decide +kernel))
          refine lv_iconst (v := nI 0) hx hb dL_isWell_295 (by decide +kernel) ?_
          refine lv_iadd hx hb dL_isWell_296 ?_
          refine k_top (y := nI cI) (by rw [nI_add, Nat.add_zero]) ?_
          refine lv_istore (lv' := [(6, .int (nI cI)), (5, .int (nI (fd - fc))), (4, .int (wt + (nI (fd - fc)))), (11, .int (nI (fd - fc))), (10, .int (nI 1)), (9, .int (nI i)), (8, .int last), (7, .int old), (3, .int (nI q)), (1, .int (nI 1)), (0, .ref (B 0))]) hx hb dL_isWell_297 hl (by decide) rfl (fun ls hl => ?_)
          refine lv_iload hx hb dL_isWell_299 (lv_at hl 4 rfl) ?_
          refine lv_if_ne (tgt := 309) hx hb dL_isWell_301 (by decide) (fun _ => ?_) (fun c0 => absurd c0 (by decide +kernel))
          refine lv_iload hx hb dL_isWell_309 (lv_at hl 7 rfl) ?_
          refine lv_istore (lv' := [(7, .int old), (6, .int (nI cI)), (5, .int (nI (fd - fc))), (4, .int (wt + (nI (fd - fc)))), (11, .int (nI (fd - fc))), (10, .int (nI 1)), (9, .int (nI i)), (8, .int last), (3, .int (nI q)), (1, .int (nI 1)), (0, .ref (B 0))]) hx hb dL_isWell_311 hl (by decide) rfl (fun ls hl => ?_)
          refine lv_iload_n hx hb dL_isWell_313 rfl (lv_at hl 9 rfl) ?_
          refine lv_if_eq (tgt := 373) hx hb dL_isWell_314 (by decide) (fun c0 => absurd c0 (by decide +kernel)) (fun _ => ?_)
          refine lv_iload hx hb dL_isWell_317 (lv_at hl 5 rfl) ?_
          refine lv_if_ne (tgt := 328) hx hb dL_isWell_319 (by decide) (fun _ => ?_) (fun c0 => absurd c0 (by decide +kernel))
          refine lv_aload_n hx hb dL_isWell_328 rfl (lv_at hl 10 rfl) ?_
          refine lv_iload hx hb dL_isWell_329 (lv_at hl 6 rfl) ?_
          refine lv_iconst (v := nI 1) hx hb dL_isWell_331 (by decide +kernel) ?_
          refine k_o (As := [.int (nI i), .int (nI 1)]) (rest := []) X hW (A_frame h hM (nI i) (nI 1)) yw_X4_frame lk_L_91 ⟨Nat.le_of_ble_eq_true rfl, Nat.le_of_ble_eq_true rfl⟩ rfl hl.1 rfl (Nat.le_of_ble_eq_true rfl) ⟨Nat.zero_le _, Nat.zero_le _⟩ dL_isWell_332 (fun H locs hW => ?_)
          refine k_top (y := nI fc) ((fr_r hM (by omega)).trans ((fr_1 u i).trans ec)) ?_
          refine lv_aload_n hx hb dL_isWell_335 rfl (lv_at hl 10 rfl) ?_
          refine lv_iconst (v := nI 0) hx hb dL_isWell_336 (by decide +kernel) ?_
          refine k_o (As := [.int (nI 0)]) (rest := [.int (nI fc)]) X hW (A_count h (j := 0) (by decide)) yw_X4_count lk_L_24 ⟨Nat.le_of_ble_eq_true rfl, Nat.le_of_ble_eq_true rfl⟩ rfl hl.1 rfl (Nat.le_of_ble_eq_true rfl) ⟨Nat.zero_le _, Nat.zero_le _⟩ dL_isWell_337 (fun H locs hW => ?_)
          refine k_top (y := nI T) ((ctr_0 u).trans hT0) ?_
          refine lv_icmp_gt (tgt := 373) hx hb dL_isWell_340 (by decide) (fun c0 => absurd c0 (fun z => by rw [nI_ltI (by omega) (by omega)] at z; omega)) (fun _ => ?_)
          refine lv_iload hx hb dL_isWell_343 (lv_at hl 5 rfl) ?_
          refine lv_iconst (v := nI 2) hx hb dL_isWell_345 (by decide +kernel) ?_
          refine lv_icmp_ne (tgt := 353) hx hb dL_isWell_346 (by decide) (fun _ => ?_) (fun c0 => absurd c0 (by decide +kernel))
          refine lv_iconst (v := nI 0) hx hb dL_isWell_353 (by decide +kernel) ?_
          refine lv_iload hx hb dL_isWell_354 (lv_at hl 4 rfl) ?_
          refine lv_bipush (v := (-6)) hx hb dL_isWell_356 (by decide +kernel) ?_
          refine lv_icmp_ne (tgt := 365) hx hb dL_isWell_358 (by decide) (fun _ => ?_) (fun c0 => absurd c0 (k_neg (by omega) (by decide)))
          refine lv_iconst (v := nI 0) hx hb dL_isWell_365 (by decide +kernel) ?_
          refine lv_icmp_ne (tgt := 373) hx hb dL_isWell_366 (by decide) (fun c0 => absurd rfl c0) (fun _ => ?_)
          refine lv_iconst (v := nI 1) hx hb dL_isWell_369 (by decide +kernel) ?_
          refine lv_goto (tgt := 374) hx hb dL_isWell_370 (by decide) ?_
          refine lv_istore_n (lv' := [(1, .int (nI 1)), (7, .int old), (6, .int (nI cI)), (5, .int (nI (fd - fc))), (4, .int (wt + (nI (fd - fc)))), (11, .int (nI (fd - fc))), (10, .int (nI 1)), (9, .int (nI i)), (8, .int last), (3, .int (nI q)), (0, .ref (B 0))]) hx hb dL_isWell_374 rfl hl (by decide) rfl (fun ls hl => ?_)
          refine lv_iload hx hb dL_isWell_375 (lv_at hl 6 rfl) ?_
          refine lv_iconst (v := nI 2) hx hb dL_isWell_377 (by decide +kernel) ?_
          refine lv_icmp_ne (tgt := 386) hx hb dL_isWell_378 (by decide) (fun _ => ?_) (fun c0 => absurd c0 (by decide +kernel))
          refine lv_iload hx hb dL_isWell_386 (lv_at hl 6 rfl) ?_
          refine lv_istore (lv' := [(8, .int (nI 1)), (1, .int (nI 1)), (7, .int old), (6, .int (nI cI)), (5, .int (nI (fd - fc))), (4, .int (wt + (nI (fd - fc)))), (11, .int (nI (fd - fc))), (10, .int (nI 1)), (9, .int (nI i)), (3, .int (nI q)), (0, .ref (B 0))]) hx hb dL_isWell_388 hl (by decide) rfl (fun ls hl => ?_)
          have hI2 := INVF_st1 hI (by omega) ⟨hs, cq⟩ (w := nI (fd - fc)) (by rw [ed, ec, pk_sub hcd])
          rw [mx, if_pos (Int32.not_le.mp cm)] at hI2
          refine lv_iinc (v := nI i - nI 1) (lv' := [(9, .int (nI i - nI 1)), (8, .int (nI 1)), (1, .int (nI 1)), (7, .int old), (6, .int (nI cI)), (5, .int (nI (fd - fc))), (4, .int (wt + (nI (fd - fc)))), (11, .int (nI (fd - fc))), (10, .int (nI 1)), (3, .int (nI q)), (0, .ref (B 0))]) hx hb dL_isWell_390 hl (k := 8) rfl (dec1 i) (by decide) rfl (fun ls hl => ?_)
          refine lv_goto (tgt := 209) hx hb dL_isWell_393 (by decide) ?_
          exact ih (by omega) _ _ _ _ _ _ _ _ hI2 hW (lv_sub hl [0, 1, 3, 4, 5, 6, 9, 2, 10] rfl)
      · refine lv_aload_n hx hb dL_isWell_227 rfl (lv_at hl 8 rfl) ?_
        refine lv_iload hx hb dL_isWell_228 (lv_at hl 0 rfl) ?_
        refine lv_iconst (v := nI 2) hx hb dL_isWell_230 (by decide +kernel) ?_
        refine k_o (As := [.int (nI i), .int (nI 2)]) (rest := []) X hW (A_frame h hM (nI i) (nI 2)) yw_X4_frame lk_L_91 ⟨Nat.le_of_ble_eq_true rfl, Nat.le_of_ble_eq_true rfl⟩ rfl hl.1 rfl (Nat.le_of_ble_eq_true rfl) ⟨Nat.zero_le _, Nat.zero_le _⟩ dL_isWell_231 (fun H locs hW => ?_)
        refine k_top (y := nI 2) (((fr_r hM (by omega)).trans (fr_2 u i)).trans hs) ?_
        refine lv_istore (lv' := [(10, .int (nI 2)), (9, .int (nI i)), (8, .int last), (7, .int old), (6, .int (nI cI)), (5, .int lg), (4, .int wt), (3, .int (nI q)), (1, .int (nI 1)), (0, .ref (B 0))]) hx hb dL_isWell_234 hl (by decide) rfl (fun ls hl => ?_)
        refine lv_aload_n hx hb dL_isWell_236 rfl (lv_at hl 9 rfl) ?_
        refine lv_iload hx hb dL_isWell_237 (lv_at hl 1 rfl) ?_
        refine lv_iconst (v := nI 3) hx hb dL_isWell_239 (by decide +kernel) ?_
        refine k_o (As := [.int (nI i), .int (nI 3)]) (rest := []) X hW (A_frame h hM (nI i) (nI 3)) yw_X4_frame lk_L_91 ⟨Nat.le_of_ble_eq_true rfl, Nat.le_of_ble_eq_true rfl⟩ rfl hl.1 rfl (Nat.le_of_ble_eq_true rfl) ⟨Nat.zero_le _, Nat.zero_le _⟩ dL_isWell_240 (fun H locs hW => ?_)
        refine k_top (y := (-6)) ((fr_r hM (by omega)).trans ((fr_3 u i).trans (by rw [m_X0_waitOf_r, hs, if_pos rfl]))) ?_
        refine lv_istore (lv' := [(11, .int (-6)), (10, .int (nI 2)), (9, .int (nI i)), (8, .int last), (7, .int old), (6, .int (nI cI)), (5, .int lg), (4, .int wt), (3, .int (nI q)), (1, .int (nI 1)), (0, .ref (B 0))]) hx hb dL_isWell_243 hl (by decide) rfl (fun ls hl => ?_)
        refine lv_iload hx hb dL_isWell_245 (lv_at hl 7 rfl) ?_
        refine lv_iload hx hb dL_isWell_247 (lv_at hl 1 rfl) ?_
        refine lv_iconst (v := nI 1) hx hb dL_isWell_249 (by decide +kernel) ?_
        refine lv_icmp_ne (tgt := 258) hx hb dL_isWell_250 (by decide) (fun _ => ?_) (fun c0 => absurd c0 (by decide +kernel))
        refine lv_iconst (v := nI 0) hx hb dL_isWell_258 (by decide +kernel) ?_
        refine lv_iadd hx hb dL_isWell_259 ?_
        refine k_top (y := wt) (Int32.add_zero _) ?_
        refine lv_istore (lv' := [(4, .int wt), (11, .int (-6)), (10, .int (nI 2)), (9, .int (nI i)), (8, .int last), (7, .int old), (6, .int (nI cI)), (5, .int lg), (3, .int (nI q)), (1, .int (nI 1)), (0, .ref (B 0))]) hx hb dL_isWell_260 hl (by decide) rfl (fun ls hl => ?_)
        refine lv_iload hx hb dL_isWell_262 (lv_at hl 2 rfl) ?_
        refine lv_iconst (v := nI 1) hx hb dL_isWell_264 (by decide +kernel) ?_
        refine lv_icmp_ne (tgt := 280) hx hb dL_isWell_265 (by decide) (fun _ => ?_) (fun c0 => absurd c0 (by decide +kernel))
        refine lv_iload hx hb dL_isWell_280 (lv_at hl 7 rfl) ?_
        refine lv_istore (lv' := [(5, .int lg), (4, .int wt), (11, .int (-6)), (10, .int (nI 2)), (9, .int (nI i)), (8, .int last), (7, .int old), (6, .int (nI cI)), (3, .int (nI q)), (1, .int (nI 1)), (0, .ref (B 0))]) hx hb dL_isWell_282 hl (by decide) rfl (fun ls hl => ?_)
        refine lv_iload hx hb dL_isWell_284 (lv_at hl 7 rfl) ?_
        refine lv_iload hx hb dL_isWell_286 (lv_at hl 3 rfl) ?_
        refine lv_if_ne (tgt := 295) hx hb dL_isWell_288 (by decide) (fun _ => ?_) (fun c0 => absurd c0 (by decide +kernel))
        refine lv_iconst (v := nI 0) hx hb dL_isWell_295 (by decide +kernel) ?_
        refine lv_iadd hx hb dL_isWell_296 ?_
        refine k_top (y := nI cI) (by rw [nI_add, Nat.add_zero]) ?_
        refine lv_istore (lv' := [(6, .int (nI cI)), (5, .int lg), (4, .int wt), (11, .int (-6)), (10, .int (nI 2)), (9, .int (nI i)), (8, .int last), (7, .int old), (3, .int (nI q)), (1, .int (nI 1)), (0, .ref (B 0))]) hx hb dL_isWell_297 hl (by decide) rfl (fun ls hl => ?_)
        refine lv_iload hx hb dL_isWell_299 (lv_at hl 4 rfl) ?_
        refine lv_if_ne (tgt := 309) hx hb dL_isWell_301 (by decide) (fun _ => ?_) (fun c0 => absurd c0 (by decide +kernel))
        refine lv_iload hx hb dL_isWell_309 (lv_at hl 7 rfl) ?_
        refine lv_istore (lv' := [(7, .int old), (6, .int (nI cI)), (5, .int lg), (4, .int wt), (11, .int (-6)), (10, .int (nI 2)), (9, .int (nI i)), (8, .int last), (3, .int (nI q)), (1, .int (nI 1)), (0, .ref (B 0))]) hx hb dL_isWell_311 hl (by decide) rfl (fun ls hl => ?_)
        refine lv_iload_n hx hb dL_isWell_313 rfl (lv_at hl 9 rfl) ?_
        refine lv_if_eq (tgt := 373) hx hb dL_isWell_314 (by decide) (fun c0 => absurd c0 (by decide +kernel)) (fun _ => ?_)
        refine lv_iload hx hb dL_isWell_317 (lv_at hl 5 rfl) ?_
        refine lv_if_ne (tgt := 328) hx hb dL_isWell_319 (by decide) (fun _ => ?_) (fun c0 => absurd c0 (by decide +kernel))
        refine lv_aload_n hx hb dL_isWell_328 rfl (lv_at hl 10 rfl) ?_
        refine lv_iload hx hb dL_isWell_329 (lv_at hl 6 rfl) ?_
        refine lv_iconst (v := nI 1) hx hb dL_isWell_331 (by decide +kernel) ?_
        refine k_o (As := [.int (nI i), .int (nI 1)]) (rest := []) X hW (A_frame h hM (nI i) (nI 1)) yw_X4_frame lk_L_91 ⟨Nat.le_of_ble_eq_true rfl, Nat.le_of_ble_eq_true rfl⟩ rfl hl.1 rfl (Nat.le_of_ble_eq_true rfl) ⟨Nat.zero_le _, Nat.zero_le _⟩ dL_isWell_332 (fun H locs hW => ?_)
        refine k_top (y := nI fc) ((fr_r hM (by omega)).trans ((fr_1 u i).trans ec)) ?_
        refine lv_aload_n hx hb dL_isWell_335 rfl (lv_at hl 10 rfl) ?_
        refine lv_iconst (v := nI 0) hx hb dL_isWell_336 (by decide +kernel) ?_
        refine k_o (As := [.int (nI 0)]) (rest := [.int (nI fc)]) X hW (A_count h (j := 0) (by decide)) yw_X4_count lk_L_24 ⟨Nat.le_of_ble_eq_true rfl, Nat.le_of_ble_eq_true rfl⟩ rfl hl.1 rfl (Nat.le_of_ble_eq_true rfl) ⟨Nat.zero_le _, Nat.zero_le _⟩ dL_isWell_337 (fun H locs hW => ?_)
        refine k_top (y := nI T) ((ctr_0 u).trans hT0) ?_
        refine lv_icmp_gt (tgt := 373) hx hb dL_isWell_340 (by decide) (fun c0 => absurd c0 (fun z => by rw [nI_ltI (by omega) (by omega)] at z; omega)) (fun _ => ?_)
        refine lv_iload hx hb dL_isWell_343 (lv_at hl 5 rfl) ?_
        refine lv_iconst (v := nI 2) hx hb dL_isWell_345 (by decide +kernel) ?_
        refine lv_icmp_ne (tgt := 353) hx hb dL_isWell_346 (by decide) (fun c0 => absurd rfl c0) (fun _ => ?_)
        refine lv_iconst (v := nI 1) hx hb dL_isWell_349 (by decide +kernel) ?_
        refine lv_goto (tgt := 354) hx hb dL_isWell_350 (by decide) ?_
        refine lv_iload hx hb dL_isWell_354 (lv_at hl 4 rfl) ?_
        refine lv_bipush (v := (-6)) hx hb dL_isWell_356 (by decide +kernel) ?_
        refine lv_icmp_ne (tgt := 365) hx hb dL_isWell_358 (by decide) (fun c0 => absurd rfl c0) (fun _ => ?_)
        refine lv_iconst (v := nI 1) hx hb dL_isWell_361 (by decide +kernel) ?_
        refine lv_goto (tgt := 366) hx hb dL_isWell_362 (by decide) ?_
        refine lv_icmp_ne (tgt := 373) hx hb dL_isWell_366 (by decide) (fun c0 => absurd rfl c0) (fun _ => ?_)
        refine lv_iconst (v := nI 1) hx hb dL_isWell_369 (by decide +kernel) ?_
        refine lv_goto (tgt := 374) hx hb dL_isWell_370 (by decide) ?_
        refine lv_istore_n (lv' := [(1, .int (nI 1)), (7, .int old), (6, .int (nI cI)), (5, .int lg), (4, .int wt), (11, .int (-6)), (10, .int (nI 2)), (9, .int (nI i)), (8, .int last), (3, .int (nI q)), (0, .ref (B 0))]) hx hb dL_isWell_374 rfl hl (by decide) rfl (fun ls hl => ?_)
        refine lv_iload hx hb dL_isWell_375 (lv_at hl 6 rfl) ?_
        refine lv_iconst (v := nI 2) hx hb dL_isWell_377 (by decide +kernel) ?_
        refine lv_icmp_ne (tgt := 386) hx hb dL_isWell_378 (by decide) (fun c0 => absurd rfl c0) (fun _ => ?_)
        refine lv_iload hx hb dL_isWell_381 (lv_at hl 8 rfl) ?_
        refine lv_goto (tgt := 388) hx hb dL_isWell_383 (by decide) ?_
        refine lv_istore (lv' := [(8, .int last), (1, .int (nI 1)), (7, .int old), (6, .int (nI cI)), (5, .int lg), (4, .int wt), (11, .int (-6)), (10, .int (nI 2)), (9, .int (nI i)), (3, .int (nI q)), (0, .ref (B 0))]) hx hb dL_isWell_388 hl (by decide) rfl (fun ls hl => ?_)
        refine lv_iinc (v := nI i - nI 1) (lv' := [(9, .int (nI i - nI 1)), (8, .int last), (1, .int (nI 1)), (7, .int old), (6, .int (nI cI)), (5, .int lg), (4, .int wt), (11, .int (-6)), (10, .int (nI 2)), (3, .int (nI q)), (0, .ref (B 0))]) hx hb dL_isWell_390 hl (k := 8) rfl (dec1 i) (by decide) rfl (fun ls hl => ?_)
        refine lv_goto (tgt := 209) hx hb dL_isWell_393 (by decide) ?_
        exact ih (by omega) _ _ _ _ _ _ _ _ (INVF_skip hI (fun z => absurd (hs.symm.trans z.1) (by decide +kernel)) (fun z => absurd (hs.symm.trans z.1) (by decide +kernel))) hW (lv_sub hl [0, 1, 3, 4, 5, 6, 9, 2, 10] rfl)
set_option maxHeartbeats 4000000 in
set_option maxRecDepth 100000 in
theorem well_queue (X : KX p s m args meth c cL_isWell 12 Ts RL D k P) (h : AT o u S sv) (hw : WL u T) (hT : T ≤ 9999) {q : Nat} (hq : q < 3)
    (kk : ∀ (H : Heap) (locs : List Loc) (ls : Array Slot), KW D P s (OW k B A0 o ++ []) H locs → lv_has ls 12 [(3, .int (nI (q + 1))), (1, .int (nI 1)), (0, .ref (B 0))] → W p l e (rmD 4) s m args below meth c H locs 0 0 Q (F0 m 178 ls [])) :
    ∀ (H : Heap) (locs : List Loc) (ls : Array Slot), KW D P s (OW k B A0 o ++ []) H locs → lv_has ls 12 [(3, .int (nI q)), (1, .int (nI 1)), (0, .ref (B 0))] → W p l e (rmD 4) s m args below meth c H locs 0 0 Q (F0 m 178 ls []) := by
  have hx := X.hx
  have hb := X.hb
  have hM := hw.1
  have hc := hM.2.1
  have hQ := hw.2.2.2.2.1 q hq
  have htc := tail_cases hw hq
  intro H locs ls hW hl
  refine lv_iload_n hx hb dL_isWell_178 rfl (lv_at hl 0 rfl) ?_
  refine lv_iconst (v := nI 3) hx hb dL_isWell_179 (by decide +kernel) ?_
  refine lv_icmp_ge (tgt := 562) hx hb dL_isWell_180 (by decide) (fun c0 => absurd c0 (fun z => by rw [nI_leI (by decide) (by omega)] at z; omega)) (fun _ => ?_)
  refine lv_iconst (v := nI 0) hx hb dL_isWell_183 (by decide +kernel) ?_
  refine lv_istore (lv' := [(4, .int (nI 0)), (3, .int (nI q)), (1, .int (nI 1)), (0, .ref (B 0))]) hx hb dL_isWell_184 hl (by decide) rfl (fun ls hl => ?_)
  refine lv_bipush (v := (-6)) hx hb dL_isWell_186 (by decide +kernel) ?_
  refine lv_istore (lv' := [(5, .int (-6)), (4, .int (nI 0)), (3, .int (nI q)), (1, .int (nI 1)), (0, .ref (B 0))]) hx hb dL_isWell_188 hl (by decide) rfl (fun ls hl => ?_)
  refine lv_iconst (v := nI 0) hx hb dL_isWell_190 (by decide +kernel) ?_
  refine lv_istore (lv' := [(6, .int (nI 0)), (5, .int (-6)), (4, .int (nI 0)), (3, .int (nI q)), (1, .int (nI 1)), (0, .ref (B 0))]) hx hb dL_isWell_191 hl (by decide) rfl (fun ls hl => ?_)
  refine lv_bipush (v := (-6)) hx hb dL_isWell_193 (by decide +kernel) ?_
  refine lv_istore (lv' := [(7, .int (-6)), (6, .int (nI 0)), (5, .int (-6)), (4, .int (nI 0)), (3, .int (nI q)), (1, .int (nI 1)), (0, .ref (B 0))]) hx hb dL_isWell_195 hl (by decide) rfl (fun ls hl => ?_)
  refine lv_iconst (v := (-1)) hx hb dL_isWell_197 (by decide +kernel) ?_
  refine lv_istore (lv' := [(8, .int (-1)), (7, .int (-6)), (6, .int (nI 0)), (5, .int (-6)), (4, .int (nI 0)), (3, .int (nI q)), (1, .int (nI 1)), (0, .ref (B 0))]) hx hb dL_isWell_198 hl (by decide) rfl (fun ls hl => ?_)
  refine lv_aload_n hx hb dL_isWell_200 rfl (lv_at hl 7 rfl) ?_
  refine lv_iconst (v := nI 1) hx hb dL_isWell_201 (by decide +kernel) ?_
  refine k_o (As := [.int (nI 1)]) (rest := []) X hW (A_count h (j := 1) (by decide)) yw_X4_count lk_L_24 ⟨Nat.le_of_ble_eq_true rfl, Nat.le_of_ble_eq_true rfl⟩ rfl hl.1 rfl (Nat.le_of_ble_eq_true rfl) ⟨Nat.zero_le _, Nat.zero_le _⟩ dL_isWell_202 (fun H locs hW => ?_)
  refine k_top (y := nI (cn u)) ((ctr_1 u).trans hM.1) ?_
  refine lv_iconst (v := nI 1) hx hb dL_isWell_205 (by decide +kernel) ?_
  refine lv_isub hx hb dL_isWell_206 ?_
  refine lv_istore (lv' := [(9, .int ((nI (cn u)) - (nI 1))), (8, .int (-1)), (7, .int (-6)), (6, .int (nI 0)), (5, .int (-6)), (4, .int (nI 0)), (3, .int (nI q)), (1, .int (nI 1)), (0, .ref (B 0))]) hx hb dL_isWell_207 hl (by decide) rfl (fun ls hl => ?_)
  refine well_frames X h hw hT hq ?_ (cn u) (Nat.le_refl _) _ _ _ _ _ _ _ _ (INVF_0 u q (cn u)) hW (lv_sub hl [0, 1, 2, 3, 4, 5, 6, 7, 8] rfl)
  intro H locs ls wt lg cI old last hI hW hl
  obtain ⟨w1, w2, w3, w4⟩ := INVF_fin hI
  have eO := OLD_uq hc w4 hQ.2.2.1
  refine lv_iload_n hx hb dL_isWell_396 rfl (lv_at hl 5 rfl) ?_
  refine lv_if_eq (tgt := 554) hx hb dL_isWell_397 (by decide) (fun c0 => absurd c0 (by decide +kernel)) (fun _ => ?_)
  refine lv_iload hx hb dL_isWell_400 (lv_at hl 3 rfl) ?_
  refine lv_aload_n hx hb dL_isWell_402 rfl (lv_at hl 6 rfl) ?_
  refine lv_iload_n hx hb dL_isWell_403 rfl (lv_at hl 4 rfl) ?_
  refine lv_bipush (v := nI 9) hx hb dL_isWell_404 (by decide +kernel) ?_
  refine k_o (As := [.int (nI q), .int (nI 9)]) (rest := [.int wt]) X hW (A_of h (nI q) (nI 9)) yw_X4_of lk_L_15 ⟨Nat.le_of_ble_eq_true rfl, Nat.le_of_ble_eq_true rfl⟩ rfl hl.1 rfl (Nat.le_of_ble_eq_true rfl) ⟨Nat.zero_le _, Nat.zero_le _⟩ dL_isWell_406 (fun H locs hW => ?_)
  refine k_top (y := wt) ((of_r hq).trans (hQ.2.2.2.2.2.1.trans w1.symm)) ?_
  refine lv_icmp_ne (tgt := 554) hx hb dL_isWell_409 (by decide) (fun c0 => absurd rfl c0) (fun _ => ?_)
  refine lv_iload hx hb dL_isWell_412 (lv_at hl 2 rfl) ?_
  refine lv_aload_n hx hb dL_isWell_414 rfl (lv_at hl 6 rfl) ?_
  refine lv_iload_n hx hb dL_isWell_415 rfl (lv_at hl 4 rfl) ?_
  refine lv_bipush (v := nI 10) hx hb dL_isWell_416 (by decide +kernel) ?_
  refine k_o (As := [.int (nI q), .int (nI 10)]) (rest := [.int lg]) X hW (A_of h (nI q) (nI 10)) yw_X4_of lk_L_15 ⟨Nat.le_of_ble_eq_true rfl, Nat.le_of_ble_eq_true rfl⟩ rfl hl.1 rfl (Nat.le_of_ble_eq_true rfl) ⟨Nat.zero_le _, Nat.zero_le _⟩ dL_isWell_418 (fun H locs hW => ?_)
  refine k_top (y := lg) ((of_r hq).trans (hQ.2.2.2.2.2.2.1.trans w2.symm)) ?_
  refine lv_icmp_ne (tgt := 554) hx hb dL_isWell_421 (by decide) (fun c0 => absurd rfl c0) (fun _ => ?_)
  refine lv_iload hx hb dL_isWell_424 (lv_at hl 1 rfl) ?_
  refine lv_aload_n hx hb dL_isWell_426 rfl (lv_at hl 6 rfl) ?_
  refine lv_iload_n hx hb dL_isWell_427 rfl (lv_at hl 4 rfl) ?_
  refine lv_iconst (v := nI 3) hx hb dL_isWell_428 (by decide +kernel) ?_
  refine k_o (As := [.int (nI q), .int (nI 3)]) (rest := [.int (nI cI)]) X hW (A_of h (nI q) (nI 3)) yw_X4_of lk_L_15 ⟨Nat.le_of_ble_eq_true rfl, Nat.le_of_ble_eq_true rfl⟩ rfl hl.1 rfl (Nat.le_of_ble_eq_true rfl) ⟨Nat.zero_le _, Nat.zero_le _⟩ dL_isWell_429 (fun H locs hW => ?_)
  refine k_top (y := nI cI) ((of_r hq).trans (hQ.2.1.trans (congrArg nI w3.symm))) ?_
  refine lv_icmp_ne (tgt := 554) hx hb dL_isWell_432 (by decide) (fun c0 => absurd rfl c0) (fun _ => ?_)
  refine lv_iload hx hb dL_isWell_435 (lv_at hl 0 rfl) ?_
  refine lv_aload_n hx hb dL_isWell_437 rfl (lv_at hl 6 rfl) ?_
  refine lv_iload_n hx hb dL_isWell_438 rfl (lv_at hl 4 rfl) ?_
  refine lv_bipush (v := nI 12) hx hb dL_isWell_439 (by decide +kernel) ?_
  refine k_o (As := [.int (nI q), .int (nI 12)]) (rest := [.int old]) X hW (A_of h (nI q) (nI 12)) yw_X4_of lk_L_15 ⟨Nat.le_of_ble_eq_true rfl, Nat.le_of_ble_eq_true rfl⟩ rfl hl.1 rfl (Nat.le_of_ble_eq_true rfl) ⟨Nat.zero_le _, Nat.zero_le _⟩ dL_isWell_441 (fun H locs hW => ?_)
  refine k_top (y := old) ((of_r hq).trans eO.symm) ?_
  refine lv_icmp_ne (tgt := 554) hx hb dL_isWell_444 (by decide) (fun c0 => absurd rfl c0) (fun _ => ?_)
  obtain ⟨bc, eb, bc1, bc2⟩ := hQ.2.2.2.2.2.2.2.1
  obtain ⟨sc, es, sc1⟩ := hQ.2.2.2.2.2.2.2.2.1
  have lT := nS_le u q (nI 1) (cn u)
  have lR := nS_le u q (nI 0) (cn u)
  refine lv_aload_n hx hb dL_isWell_447 rfl (lv_at hl 6 rfl) ?_
  refine lv_iload_n hx hb dL_isWell_448 rfl (lv_at hl 4 rfl) ?_
  refine lv_iconst (v := nI 2) hx hb dL_isWell_449 (by decide +kernel) ?_
  refine k_o (As := [.int (nI q), .int (nI 2)]) (rest := []) X hW (A_of h (nI q) (nI 2)) yw_X4_of lk_L_15 ⟨Nat.le_of_ble_eq_true rfl, Nat.le_of_ble_eq_true rfl⟩ rfl hl.1 rfl (Nat.le_of_ble_eq_true rfl) ⟨Nat.zero_le _, Nat.zero_le _⟩ dL_isWell_450 (fun H locs hW => ?_)
  refine k_top (y := nI bc) ((of_r hq).trans eb) ?_
  refine lv_iconst (v := nI 1) hx hb dL_isWell_453 (by decide +kernel) ?_
  refine lv_icmp_lt (tgt := 554) hx hb dL_isWell_454 (by decide) (fun c0 => absurd c0 (fun z => by rw [nI_ltI (by omega) (by decide)] at z; omega)) (fun _ => ?_)
  refine lv_aload_n hx hb dL_isWell_457 rfl (lv_at hl 6 rfl) ?_
  refine lv_iload_n hx hb dL_isWell_458 rfl (lv_at hl 4 rfl) ?_
  refine lv_iconst (v := nI 2) hx hb dL_isWell_459 (by decide +kernel) ?_
  refine k_o (As := [.int (nI q), .int (nI 2)]) (rest := []) X hW (A_of h (nI q) (nI 2)) yw_X4_of lk_L_15 ⟨Nat.le_of_ble_eq_true rfl, Nat.le_of_ble_eq_true rfl⟩ rfl hl.1 rfl (Nat.le_of_ble_eq_true rfl) ⟨Nat.zero_le _, Nat.zero_le _⟩ dL_isWell_460 (fun H locs hW => ?_)
  refine k_top (y := nI bc) ((of_r hq).trans eb) ?_
  refine lv_bipush (v := nI 32) hx hb dL_isWell_463 (by decide +kernel) ?_
  refine lv_icmp_gt (tgt := 554) hx hb dL_isWell_465 (by decide) (fun c0 => absurd c0 (fun z => by rw [nI_ltI (by decide) (by omega)] at z; omega)) (fun _ => ?_)
  rcases htc with ⟨t4, tw⟩ | ⟨t4, t12, t5, tw⟩ | ⟨t4, t12, t5, tn0, tw⟩ | ⟨t4, t12, t5, tn0, tw⟩
  · refine lv_aload_n hx hb dL_isWell_468 rfl (lv_at hl 6 rfl) ?_
    refine lv_iload_n hx hb dL_isWell_469 rfl (lv_at hl 4 rfl) ?_
    refine lv_iconst (v := nI 4) hx hb dL_isWell_470 (by decide +kernel) ?_
    refine k_o (As := [.int (nI q), .int (nI 4)]) (rest := []) X hW (A_of h (nI q) (nI 4)) yw_X4_of lk_L_15 ⟨Nat.le_of_ble_eq_true rfl, Nat.le_of_ble_eq_true rfl⟩ rfl hl.1 rfl (Nat.le_of_ble_eq_true rfl) ⟨Nat.zero_le _, Nat.zero_le _⟩ dL_isWell_471 (fun H locs hW => ?_)
    refine k_top (y := nI 1) ((of_r hq).trans t4) ?_
    refine lv_iconst (v := nI 1) hx hb dL_isWell_474 (by decide +kernel) ?_
    refine lv_icmp_eq (tgt := 488) hx hb dL_isWell_475 (by decide) (fun _ => ?_) (fun c0 => absurd rfl c0)
    refine lv_aload_n hx hb dL_isWell_488 rfl (lv_at hl 6 rfl) ?_
    refine lv_iload_n hx hb dL_isWell_489 rfl (lv_at hl 4 rfl) ?_
    refine lv_bipush (v := nI 11) hx hb dL_isWell_490 (by decide +kernel) ?_
    refine k_o (As := [.int (nI q), .int (nI 11)]) (rest := []) X hW (A_of h (nI q) (nI 11)) yw_X4_of lk_L_15 ⟨Nat.le_of_ble_eq_true rfl, Nat.le_of_ble_eq_true rfl⟩ rfl hl.1 rfl (Nat.le_of_ble_eq_true rfl) ⟨Nat.zero_le _, Nat.zero_le _⟩ dL_isWell_492 (fun H locs hW => ?_)
    refine k_top (y := nI sc) ((of_r hq).trans es) ?_
    refine lv_aload_n hx hb dL_isWell_495 rfl (lv_at hl 6 rfl) ?_
    refine lv_iload_n hx hb dL_isWell_496 rfl (lv_at hl 4 rfl) ?_
    refine lv_bipush (v := nI 7) hx hb dL_isWell_497 (by decide +kernel) ?_
    refine k_o (As := [.int (nI q), .int (nI 7)]) (rest := [.int (nI sc)]) X hW (A_of h (nI q) (nI 7)) yw_X4_of lk_L_15 ⟨Nat.le_of_ble_eq_true rfl, Nat.le_of_ble_eq_true rfl⟩ rfl hl.1 rfl (Nat.le_of_ble_eq_true rfl) ⟨Nat.zero_le _, Nat.zero_le _⟩ dL_isWell_499 (fun H locs hW => ?_)
    refine k_top (y := nI (nS u q (nI 1) (cn u))) ((of_r hq).trans hQ.2.2.2.1) ?_
    refine lv_icmp_gt (tgt := 554) hx hb dL_isWell_502 (by decide) (fun c0 => absurd c0 (fun z => by rw [nI_ltI (by omega) (by omega)] at z; omega)) (fun _ => ?_)
    refine lv_aload_n hx hb dL_isWell_505 rfl (lv_at hl 6 rfl) ?_
    refine lv_iload_n hx hb dL_isWell_506 rfl (lv_at hl 4 rfl) ?_
    refine k_o (As := [.int (nI q)]) (rest := []) X hW (A_why h hM (nI q)) yw_X4_why lk_L_67 ⟨Nat.le_of_ble_eq_true rfl, Nat.le_of_ble_eq_true rfl⟩ rfl hl.1 rfl (Nat.le_of_ble_eq_true rfl) ⟨Nat.zero_le _, Nat.zero_le _⟩ dL_isWell_507 (fun H locs hW => ?_)
    refine k_top (y := nI 1) tw ?_
    refine lv_iconst (v := nI 3) hx hb dL_isWell_510 (by decide +kernel) ?_
    refine lv_icmp_ne (tgt := 518) hx hb dL_isWell_511 (by decide) (fun _ => ?_) (fun c0 => absurd c0 (by decide +kernel))
    refine lv_iconst (v := nI 0) hx hb dL_isWell_518 (by decide +kernel) ?_
    refine lv_aload_n hx hb dL_isWell_519 rfl (lv_at hl 6 rfl) ?_
    refine lv_iload_n hx hb dL_isWell_520 rfl (lv_at hl 4 rfl) ?_
    refine lv_iconst (v := nI 4) hx hb dL_isWell_521 (by decide +kernel) ?_
    refine k_o (As := [.int (nI q), .int (nI 4)]) (rest := [.int (nI 0)]) X hW (A_of h (nI q) (nI 4)) yw_X4_of lk_L_15 ⟨Nat.le_of_ble_eq_true rfl, Nat.le_of_ble_eq_true rfl⟩ rfl hl.1 rfl (Nat.le_of_ble_eq_true rfl) ⟨Nat.zero_le _, Nat.zero_le _⟩ dL_isWell_522 (fun H locs hW => ?_)
    refine k_top (y := nI 1) ((of_r hq).trans t4) ?_
    refine lv_if_ne (tgt := 546) hx hb dL_isWell_525 (by decide) (fun _ => ?_) (fun c0 => absurd c0 (by decide +kernel))
    refine lv_iconst (v := nI 0) hx hb dL_isWell_546 (by decide +kernel) ?_
    refine lv_icmp_ne (tgt := 554) hx hb dL_isWell_547 (by decide) (fun c0 => absurd rfl c0) (fun _ => ?_)
    refine lv_iconst (v := nI 1) hx hb dL_isWell_550 (by decide +kernel) ?_
    refine lv_goto (tgt := 555) hx hb dL_isWell_551 (by decide) ?_
    refine lv_istore_n (lv' := [(1, .int (nI 1)), (7, .int old), (6, .int (nI cI)), (5, .int lg), (4, .int wt), (3, .int (nI q)), (0, .ref (B 0))]) hx hb dL_isWell_555 rfl hl (by decide) rfl (fun ls hl => ?_)
    refine lv_iinc (v := nI (q + 1)) (lv' := [(3, .int (nI (q + 1))), (1, .int (nI 1)), (7, .int old), (6, .int (nI cI)), (5, .int lg), (4, .int wt), (0, .ref (B 0))]) hx hb dL_isWell_556 hl (k := 5) rfl (k_inc _) (by decide) rfl (fun ls hl => ?_)
    refine lv_goto (tgt := 178) hx hb dL_isWell_559 (by decide) ?_
    exact kk _ _ _ hW (lv_sub hl [0, 1, 6] rfl)
  · refine lv_aload_n hx hb dL_isWell_468 rfl (lv_at hl 6 rfl) ?_
    refine lv_iload_n hx hb dL_isWell_469 rfl (lv_at hl 4 rfl) ?_
    refine lv_iconst (v := nI 4) hx hb dL_isWell_470 (by decide +kernel) ?_
    refine k_o (As := [.int (nI q), .int (nI 4)]) (rest := []) X hW (A_of h (nI q) (nI 4)) yw_X4_of lk_L_15 ⟨Nat.le_of_ble_eq_true rfl, Nat.le_of_ble_eq_true rfl⟩ rfl hl.1 rfl (Nat.le_of_ble_eq_true rfl) ⟨Nat.zero_le _, Nat.zero_le _⟩ dL_isWell_471 (fun H locs hW => ?_)
    refine k_top (y := nI 0) ((of_r hq).trans t4) ?_
    refine lv_iconst (v := nI 1) hx hb dL_isWell_474 (by decide +kernel) ?_
    refine lv_icmp_eq (tgt := 488) hx hb dL_isWell_475 (by decide) (fun c0 => absurd c0 (by decide +kernel)) (fun _ => ?_)
    refine lv_aload_n hx hb dL_isWell_478 rfl (lv_at hl 6 rfl) ?_
    refine lv_iload_n hx hb dL_isWell_479 rfl (lv_at hl 4 rfl) ?_
    refine lv_bipush (v := nI 11) hx hb dL_isWell_480 (by decide +kernel) ?_
    refine k_o (As := [.int (nI q), .int (nI 11)]) (rest := []) X hW (A_of h (nI q) (nI 11)) yw_X4_of lk_L_15 ⟨Nat.le_of_ble_eq_true rfl, Nat.le_of_ble_eq_true rfl⟩ rfl hl.1 rfl (Nat.le_of_ble_eq_true rfl) ⟨Nat.zero_le _, Nat.zero_le _⟩ dL_isWell_482 (fun H locs hW => ?_)
    refine k_top (y := nI 0) ((of_r hq).trans t12) ?_
    refine lv_if_ne (tgt := 554) hx hb dL_isWell_485 (by decide) (fun c0 => absurd rfl c0) (fun _ => ?_)
    refine lv_aload_n hx hb dL_isWell_488 rfl (lv_at hl 6 rfl) ?_
    refine lv_iload_n hx hb dL_isWell_489 rfl (lv_at hl 4 rfl) ?_
    refine lv_bipush (v := nI 11) hx hb dL_isWell_490 (by decide +kernel) ?_
    refine k_o (As := [.int (nI q), .int (nI 11)]) (rest := []) X hW (A_of h (nI q) (nI 11)) yw_X4_of lk_L_15 ⟨Nat.le_of_ble_eq_true rfl, Nat.le_of_ble_eq_true rfl⟩ rfl hl.1 rfl (Nat.le_of_ble_eq_true rfl) ⟨Nat.zero_le _, Nat.zero_le _⟩ dL_isWell_492 (fun H locs hW => ?_)
    refine k_top (y := nI sc) ((of_r hq).trans es) ?_
    refine lv_aload_n hx hb dL_isWell_495 rfl (lv_at hl 6 rfl) ?_
    refine lv_iload_n hx hb dL_isWell_496 rfl (lv_at hl 4 rfl) ?_
    refine lv_bipush (v := nI 7) hx hb dL_isWell_497 (by decide +kernel) ?_
    refine k_o (As := [.int (nI q), .int (nI 7)]) (rest := [.int (nI sc)]) X hW (A_of h (nI q) (nI 7)) yw_X4_of lk_L_15 ⟨Nat.le_of_ble_eq_true rfl, Nat.le_of_ble_eq_true rfl⟩ rfl hl.1 rfl (Nat.le_of_ble_eq_true rfl) ⟨Nat.zero_le _, Nat.zero_le _⟩ dL_isWell_499 (fun H locs hW => ?_)
    refine k_top (y := nI (nS u q (nI 1) (cn u))) ((of_r hq).trans hQ.2.2.2.1) ?_
    refine lv_icmp_gt (tgt := 554) hx hb dL_isWell_502 (by decide) (fun c0 => absurd c0 (fun z => by rw [nI_ltI (by omega) (by omega)] at z; omega)) (fun _ => ?_)
    refine lv_aload_n hx hb dL_isWell_505 rfl (lv_at hl 6 rfl) ?_
    refine lv_iload_n hx hb dL_isWell_506 rfl (lv_at hl 4 rfl) ?_
    refine k_o (As := [.int (nI q)]) (rest := []) X hW (A_why h hM (nI q)) yw_X4_why lk_L_67 ⟨Nat.le_of_ble_eq_true rfl, Nat.le_of_ble_eq_true rfl⟩ rfl hl.1 rfl (Nat.le_of_ble_eq_true rfl) ⟨Nat.zero_le _, Nat.zero_le _⟩ dL_isWell_507 (fun H locs hW => ?_)
    refine k_top (y := nI 2) tw ?_
    refine lv_iconst (v := nI 3) hx hb dL_isWell_510 (by decide +kernel) ?_
    refine lv_icmp_ne (tgt := 518) hx hb dL_isWell_511 (by decide) (fun _ => ?_) (fun c0 => absurd c0 (by decide +kernel))
    refine lv_iconst (v := nI 0) hx hb dL_isWell_518 (by decide +kernel) ?_
    refine lv_aload_n hx hb dL_isWell_519 rfl (lv_at hl 6 rfl) ?_
    refine lv_iload_n hx hb dL_isWell_520 rfl (lv_at hl 4 rfl) ?_
    refine lv_iconst (v := nI 4) hx hb dL_isWell_521 (by decide +kernel) ?_
    refine k_o (As := [.int (nI q), .int (nI 4)]) (rest := [.int (nI 0)]) X hW (A_of h (nI q) (nI 4)) yw_X4_of lk_L_15 ⟨Nat.le_of_ble_eq_true rfl, Nat.le_of_ble_eq_true rfl⟩ rfl hl.1 rfl (Nat.le_of_ble_eq_true rfl) ⟨Nat.zero_le _, Nat.zero_le _⟩ dL_isWell_522 (fun H locs hW => ?_)
    refine k_top (y := nI 0) ((of_r hq).trans t4) ?_
    refine lv_if_ne (tgt := 546) hx hb dL_isWell_525 (by decide) (fun c0 => absurd rfl c0) (fun _ => ?_)
    refine lv_aload_n hx hb dL_isWell_528 rfl (lv_at hl 6 rfl) ?_
    refine lv_iload_n hx hb dL_isWell_529 rfl (lv_at hl 4 rfl) ?_
    refine lv_iconst (v := nI 5) hx hb dL_isWell_530 (by decide +kernel) ?_
    refine k_o (As := [.int (nI q), .int (nI 5)]) (rest := [.int (nI 0)]) X hW (A_of h (nI q) (nI 5)) yw_X4_of lk_L_15 ⟨Nat.le_of_ble_eq_true rfl, Nat.le_of_ble_eq_true rfl⟩ rfl hl.1 rfl (Nat.le_of_ble_eq_true rfl) ⟨Nat.zero_le _, Nat.zero_le _⟩ dL_isWell_531 (fun H locs hW => ?_)
    refine k_top (y := nI 1) ((of_r hq).trans t5) ?_
    refine lv_if_ne (tgt := 546) hx hb dL_isWell_534 (by decide) (fun _ => ?_) (fun c0 => absurd c0 (by decide +kernel))
    refine lv_iconst (v := nI 0) hx hb dL_isWell_546 (by decide +kernel) ?_
    refine lv_icmp_ne (tgt := 554) hx hb dL_isWell_547 (by decide) (fun c0 => absurd rfl c0) (fun _ => ?_)
    refine lv_iconst (v := nI 1) hx hb dL_isWell_550 (by decide +kernel) ?_
    refine lv_goto (tgt := 555) hx hb dL_isWell_551 (by decide) ?_
    refine lv_istore_n (lv' := [(1, .int (nI 1)), (7, .int old), (6, .int (nI cI)), (5, .int lg), (4, .int wt), (3, .int (nI q)), (0, .ref (B 0))]) hx hb dL_isWell_555 rfl hl (by decide) rfl (fun ls hl => ?_)
    refine lv_iinc (v := nI (q + 1)) (lv' := [(3, .int (nI (q + 1))), (1, .int (nI 1)), (7, .int old), (6, .int (nI cI)), (5, .int lg), (4, .int wt), (0, .ref (B 0))]) hx hb dL_isWell_556 hl (k := 5) rfl (k_inc _) (by decide) rfl (fun ls hl => ?_)
    refine lv_goto (tgt := 178) hx hb dL_isWell_559 (by decide) ?_
    exact kk _ _ _ hW (lv_sub hl [0, 1, 6] rfl)
  · refine lv_aload_n hx hb dL_isWell_468 rfl (lv_at hl 6 rfl) ?_
    refine lv_iload_n hx hb dL_isWell_469 rfl (lv_at hl 4 rfl) ?_
    refine lv_iconst (v := nI 4) hx hb dL_isWell_470 (by decide +kernel) ?_
    refine k_o (As := [.int (nI q), .int (nI 4)]) (rest := []) X hW (A_of h (nI q) (nI 4)) yw_X4_of lk_L_15 ⟨Nat.le_of_ble_eq_true rfl, Nat.le_of_ble_eq_true rfl⟩ rfl hl.1 rfl (Nat.le_of_ble_eq_true rfl) ⟨Nat.zero_le _, Nat.zero_le _⟩ dL_isWell_471 (fun H locs hW => ?_)
    refine k_top (y := nI 0) ((of_r hq).trans t4) ?_
    refine lv_iconst (v := nI 1) hx hb dL_isWell_474 (by decide +kernel) ?_
    refine lv_icmp_eq (tgt := 488) hx hb dL_isWell_475 (by decide) (fun c0 => absurd c0 (by decide +kernel)) (fun _ => ?_)
    refine lv_aload_n hx hb dL_isWell_478 rfl (lv_at hl 6 rfl) ?_
    refine lv_iload_n hx hb dL_isWell_479 rfl (lv_at hl 4 rfl) ?_
    refine lv_bipush (v := nI 11) hx hb dL_isWell_480 (by decide +kernel) ?_
    refine k_o (As := [.int (nI q), .int (nI 11)]) (rest := []) X hW (A_of h (nI q) (nI 11)) yw_X4_of lk_L_15 ⟨Nat.le_of_ble_eq_true rfl, Nat.le_of_ble_eq_true rfl⟩ rfl hl.1 rfl (Nat.le_of_ble_eq_true rfl) ⟨Nat.zero_le _, Nat.zero_le _⟩ dL_isWell_482 (fun H locs hW => ?_)
    refine k_top (y := nI 0) ((of_r hq).trans t12) ?_
    refine lv_if_ne (tgt := 554) hx hb dL_isWell_485 (by decide) (fun c0 => absurd rfl c0) (fun _ => ?_)
    refine lv_aload_n hx hb dL_isWell_488 rfl (lv_at hl 6 rfl) ?_
    refine lv_iload_n hx hb dL_isWell_489 rfl (lv_at hl 4 rfl) ?_
    refine lv_bipush (v := nI 11) hx hb dL_isWell_490 (by decide +kernel) ?_
    refine k_o (As := [.int (nI q), .int (nI 11)]) (rest := []) X hW (A_of h (nI q) (nI 11)) yw_X4_of lk_L_15 ⟨Nat.le_of_ble_eq_true rfl, Nat.le_of_ble_eq_true rfl⟩ rfl hl.1 rfl (Nat.le_of_ble_eq_true rfl) ⟨Nat.zero_le _, Nat.zero_le _⟩ dL_isWell_492 (fun H locs hW => ?_)
    refine k_top (y := nI sc) ((of_r hq).trans es) ?_
    refine lv_aload_n hx hb dL_isWell_495 rfl (lv_at hl 6 rfl) ?_
    refine lv_iload_n hx hb dL_isWell_496 rfl (lv_at hl 4 rfl) ?_
    refine lv_bipush (v := nI 7) hx hb dL_isWell_497 (by decide +kernel) ?_
    refine k_o (As := [.int (nI q), .int (nI 7)]) (rest := [.int (nI sc)]) X hW (A_of h (nI q) (nI 7)) yw_X4_of lk_L_15 ⟨Nat.le_of_ble_eq_true rfl, Nat.le_of_ble_eq_true rfl⟩ rfl hl.1 rfl (Nat.le_of_ble_eq_true rfl) ⟨Nat.zero_le _, Nat.zero_le _⟩ dL_isWell_499 (fun H locs hW => ?_)
    refine k_top (y := nI (nS u q (nI 1) (cn u))) ((of_r hq).trans hQ.2.2.2.1) ?_
    refine lv_icmp_gt (tgt := 554) hx hb dL_isWell_502 (by decide) (fun c0 => absurd c0 (fun z => by rw [nI_ltI (by omega) (by omega)] at z; omega)) (fun _ => ?_)
    refine lv_aload_n hx hb dL_isWell_505 rfl (lv_at hl 6 rfl) ?_
    refine lv_iload_n hx hb dL_isWell_506 rfl (lv_at hl 4 rfl) ?_
    refine k_o (As := [.int (nI q)]) (rest := []) X hW (A_why h hM (nI q)) yw_X4_why lk_L_67 ⟨Nat.le_of_ble_eq_true rfl, Nat.le_of_ble_eq_true rfl⟩ rfl hl.1 rfl (Nat.le_of_ble_eq_true rfl) ⟨Nat.zero_le _, Nat.zero_le _⟩ dL_isWell_507 (fun H locs hW => ?_)
    refine k_top (y := nI 3) tw ?_
    refine lv_iconst (v := nI 3) hx hb dL_isWell_510 (by decide +kernel) ?_
    refine lv_icmp_ne (tgt := 518) hx hb dL_isWell_511 (by decide) (fun c0 => absurd rfl c0) (fun _ => ?_)
    refine lv_iconst (v := nI 1) hx hb dL_isWell_514 (by decide +kernel) ?_
    refine lv_goto (tgt := 519) hx hb dL_isWell_515 (by decide) ?_
    refine lv_aload_n hx hb dL_isWell_519 rfl (lv_at hl 6 rfl) ?_
    refine lv_iload_n hx hb dL_isWell_520 rfl (lv_at hl 4 rfl) ?_
    refine lv_iconst (v := nI 4) hx hb dL_isWell_521 (by decide +kernel) ?_
    refine k_o (As := [.int (nI q), .int (nI 4)]) (rest := [.int (nI 1)]) X hW (A_of h (nI q) (nI 4)) yw_X4_of lk_L_15 ⟨Nat.le_of_ble_eq_true rfl, Nat.le_of_ble_eq_true rfl⟩ rfl hl.1 rfl (Nat.le_of_ble_eq_true rfl) ⟨Nat.zero_le _, Nat.zero_le _⟩ dL_isWell_522 (fun H locs hW => ?_)
    refine k_top (y := nI 0) ((of_r hq).trans t4) ?_
    refine lv_if_ne (tgt := 546) hx hb dL_isWell_525 (by decide) (fun c0 => absurd rfl c0) (fun _ => ?_)
    refine lv_aload_n hx hb dL_isWell_528 rfl (lv_at hl 6 rfl) ?_
    refine lv_iload_n hx hb dL_isWell_529 rfl (lv_at hl 4 rfl) ?_
    refine lv_iconst (v := nI 5) hx hb dL_isWell_530 (by decide +kernel) ?_
    refine k_o (As := [.int (nI q), .int (nI 5)]) (rest := [.int (nI 1)]) X hW (A_of h (nI q) (nI 5)) yw_X4_of lk_L_15 ⟨Nat.le_of_ble_eq_true rfl, Nat.le_of_ble_eq_true rfl⟩ rfl hl.1 rfl (Nat.le_of_ble_eq_true rfl) ⟨Nat.zero_le _, Nat.zero_le _⟩ dL_isWell_531 (fun H locs hW => ?_)
    refine k_top (y := nI 0) ((of_r hq).trans t5) ?_
    refine lv_if_ne (tgt := 546) hx hb dL_isWell_534 (by decide) (fun c0 => absurd rfl c0) (fun _ => ?_)
    refine lv_iload hx hb dL_isWell_537 (lv_at hl 1 rfl) ?_
    refine lv_if_ne (tgt := 546) hx hb dL_isWell_539 (by decide) (fun c0 => absurd (by rw [w3, tn0]; rfl) c0) (fun _ => ?_)
    refine lv_iconst (v := nI 1) hx hb dL_isWell_542 (by decide +kernel) ?_
    refine lv_goto (tgt := 547) hx hb dL_isWell_543 (by decide) ?_
    refine lv_icmp_ne (tgt := 554) hx hb dL_isWell_547 (by decide) (fun c0 => absurd rfl c0) (fun _ => ?_)
    refine lv_iconst (v := nI 1) hx hb dL_isWell_550 (by decide +kernel) ?_
    refine lv_goto (tgt := 555) hx hb dL_isWell_551 (by decide) ?_
    refine lv_istore_n (lv' := [(1, .int (nI 1)), (7, .int old), (6, .int (nI cI)), (5, .int lg), (4, .int wt), (3, .int (nI q)), (0, .ref (B 0))]) hx hb dL_isWell_555 rfl hl (by decide) rfl (fun ls hl => ?_)
    refine lv_iinc (v := nI (q + 1)) (lv' := [(3, .int (nI (q + 1))), (1, .int (nI 1)), (7, .int old), (6, .int (nI cI)), (5, .int lg), (4, .int wt), (0, .ref (B 0))]) hx hb dL_isWell_556 hl (k := 5) rfl (k_inc _) (by decide) rfl (fun ls hl => ?_)
    refine lv_goto (tgt := 178) hx hb dL_isWell_559 (by decide) ?_
    exact kk _ _ _ hW (lv_sub hl [0, 1, 6] rfl)
  · refine lv_aload_n hx hb dL_isWell_468 rfl (lv_at hl 6 rfl) ?_
    refine lv_iload_n hx hb dL_isWell_469 rfl (lv_at hl 4 rfl) ?_
    refine lv_iconst (v := nI 4) hx hb dL_isWell_470 (by decide +kernel) ?_
    refine k_o (As := [.int (nI q), .int (nI 4)]) (rest := []) X hW (A_of h (nI q) (nI 4)) yw_X4_of lk_L_15 ⟨Nat.le_of_ble_eq_true rfl, Nat.le_of_ble_eq_true rfl⟩ rfl hl.1 rfl (Nat.le_of_ble_eq_true rfl) ⟨Nat.zero_le _, Nat.zero_le _⟩ dL_isWell_471 (fun H locs hW => ?_)
    refine k_top (y := nI 0) ((of_r hq).trans t4) ?_
    refine lv_iconst (v := nI 1) hx hb dL_isWell_474 (by decide +kernel) ?_
    refine lv_icmp_eq (tgt := 488) hx hb dL_isWell_475 (by decide) (fun c0 => absurd c0 (by decide +kernel)) (fun _ => ?_)
    refine lv_aload_n hx hb dL_isWell_478 rfl (lv_at hl 6 rfl) ?_
    refine lv_iload_n hx hb dL_isWell_479 rfl (lv_at hl 4 rfl) ?_
    refine lv_bipush (v := nI 11) hx hb dL_isWell_480 (by decide +kernel) ?_
    refine k_o (As := [.int (nI q), .int (nI 11)]) (rest := []) X hW (A_of h (nI q) (nI 11)) yw_X4_of lk_L_15 ⟨Nat.le_of_ble_eq_true rfl, Nat.le_of_ble_eq_true rfl⟩ rfl hl.1 rfl (Nat.le_of_ble_eq_true rfl) ⟨Nat.zero_le _, Nat.zero_le _⟩ dL_isWell_482 (fun H locs hW => ?_)
    refine k_top (y := nI 0) ((of_r hq).trans t12) ?_
    refine lv_if_ne (tgt := 554) hx hb dL_isWell_485 (by decide) (fun c0 => absurd rfl c0) (fun _ => ?_)
    refine lv_aload_n hx hb dL_isWell_488 rfl (lv_at hl 6 rfl) ?_
    refine lv_iload_n hx hb dL_isWell_489 rfl (lv_at hl 4 rfl) ?_
    refine lv_bipush (v := nI 11) hx hb dL_isWell_490 (by decide +kernel) ?_
    refine k_o (As := [.int (nI q), .int (nI 11)]) (rest := []) X hW (A_of h (nI q) (nI 11)) yw_X4_of lk_L_15 ⟨Nat.le_of_ble_eq_true rfl, Nat.le_of_ble_eq_true rfl⟩ rfl hl.1 rfl (Nat.le_of_ble_eq_true rfl) ⟨Nat.zero_le _, Nat.zero_le _⟩ dL_isWell_492 (fun H locs hW => ?_)
    refine k_top (y := nI sc) ((of_r hq).trans es) ?_
    refine lv_aload_n hx hb dL_isWell_495 rfl (lv_at hl 6 rfl) ?_
    refine lv_iload_n hx hb dL_isWell_496 rfl (lv_at hl 4 rfl) ?_
    refine lv_bipush (v := nI 7) hx hb dL_isWell_497 (by decide +kernel) ?_
    refine k_o (As := [.int (nI q), .int (nI 7)]) (rest := [.int (nI sc)]) X hW (A_of h (nI q) (nI 7)) yw_X4_of lk_L_15 ⟨Nat.le_of_ble_eq_true rfl, Nat.le_of_ble_eq_true rfl⟩ rfl hl.1 rfl (Nat.le_of_ble_eq_true rfl) ⟨Nat.zero_le _, Nat.zero_le _⟩ dL_isWell_499 (fun H locs hW => ?_)
    refine k_top (y := nI (nS u q (nI 1) (cn u))) ((of_r hq).trans hQ.2.2.2.1) ?_
    refine lv_icmp_gt (tgt := 554) hx hb dL_isWell_502 (by decide) (fun c0 => absurd c0 (fun z => by rw [nI_ltI (by omega) (by omega)] at z; omega)) (fun _ => ?_)
    refine lv_aload_n hx hb dL_isWell_505 rfl (lv_at hl 6 rfl) ?_
    refine lv_iload_n hx hb dL_isWell_506 rfl (lv_at hl 4 rfl) ?_
    refine k_o (As := [.int (nI q)]) (rest := []) X hW (A_why h hM (nI q)) yw_X4_why lk_L_67 ⟨Nat.le_of_ble_eq_true rfl, Nat.le_of_ble_eq_true rfl⟩ rfl hl.1 rfl (Nat.le_of_ble_eq_true rfl) ⟨Nat.zero_le _, Nat.zero_le _⟩ dL_isWell_507 (fun H locs hW => ?_)
    refine lv_iconst (v := nI 3) hx hb dL_isWell_510 (by decide +kernel) ?_
    refine lv_icmp_ne (tgt := 518) hx hb dL_isWell_511 (by decide) (fun _ => ?_) (fun c0 => absurd c0 tw)
    refine lv_iconst (v := nI 0) hx hb dL_isWell_518 (by decide +kernel) ?_
    refine lv_aload_n hx hb dL_isWell_519 rfl (lv_at hl 6 rfl) ?_
    refine lv_iload_n hx hb dL_isWell_520 rfl (lv_at hl 4 rfl) ?_
    refine lv_iconst (v := nI 4) hx hb dL_isWell_521 (by decide +kernel) ?_
    refine k_o (As := [.int (nI q), .int (nI 4)]) (rest := [.int (nI 0)]) X hW (A_of h (nI q) (nI 4)) yw_X4_of lk_L_15 ⟨Nat.le_of_ble_eq_true rfl, Nat.le_of_ble_eq_true rfl⟩ rfl hl.1 rfl (Nat.le_of_ble_eq_true rfl) ⟨Nat.zero_le _, Nat.zero_le _⟩ dL_isWell_522 (fun H locs hW => ?_)
    refine k_top (y := nI 0) ((of_r hq).trans t4) ?_
    refine lv_if_ne (tgt := 546) hx hb dL_isWell_525 (by decide) (fun c0 => absurd rfl c0) (fun _ => ?_)
    refine lv_aload_n hx hb dL_isWell_528 rfl (lv_at hl 6 rfl) ?_
    refine lv_iload_n hx hb dL_isWell_529 rfl (lv_at hl 4 rfl) ?_
    refine lv_iconst (v := nI 5) hx hb dL_isWell_530 (by decide +kernel) ?_
    refine k_o (As := [.int (nI q), .int (nI 5)]) (rest := [.int (nI 0)]) X hW (A_of h (nI q) (nI 5)) yw_X4_of lk_L_15 ⟨Nat.le_of_ble_eq_true rfl, Nat.le_of_ble_eq_true rfl⟩ rfl hl.1 rfl (Nat.le_of_ble_eq_true rfl) ⟨Nat.zero_le _, Nat.zero_le _⟩ dL_isWell_531 (fun H locs hW => ?_)
    refine k_top (y := nI 0) ((of_r hq).trans t5) ?_
    refine lv_if_ne (tgt := 546) hx hb dL_isWell_534 (by decide) (fun c0 => absurd rfl c0) (fun _ => ?_)
    refine lv_iload hx hb dL_isWell_537 (lv_at hl 1 rfl) ?_
    refine lv_if_ne (tgt := 546) hx hb dL_isWell_539 (by decide) (fun _ => ?_) (fun c0 => absurd c0 (fun z => tn0 (by rw [← w3]; exact (nI_eq (b := 0) (by omega) (by decide)).mp z)))
    refine lv_iconst (v := nI 0) hx hb dL_isWell_546 (by decide +kernel) ?_
    refine lv_icmp_ne (tgt := 554) hx hb dL_isWell_547 (by decide) (fun c0 => absurd rfl c0) (fun _ => ?_)
    refine lv_iconst (v := nI 1) hx hb dL_isWell_550 (by decide +kernel) ?_
    refine lv_goto (tgt := 555) hx hb dL_isWell_551 (by decide) ?_
    refine lv_istore_n (lv' := [(1, .int (nI 1)), (7, .int old), (6, .int (nI cI)), (5, .int lg), (4, .int wt), (3, .int (nI q)), (0, .ref (B 0))]) hx hb dL_isWell_555 rfl hl (by decide) rfl (fun ls hl => ?_)
    refine lv_iinc (v := nI (q + 1)) (lv' := [(3, .int (nI (q + 1))), (1, .int (nI 1)), (7, .int old), (6, .int (nI cI)), (5, .int lg), (4, .int wt), (0, .ref (B 0))]) hx hb dL_isWell_556 hl (k := 5) rfl (k_inc _) (by decide) rfl (fun ls hl => ?_)
    refine lv_goto (tgt := 178) hx hb dL_isWell_559 (by decide) ?_
    exact kk _ _ _ hW (lv_sub hl [0, 1, 6] rfl)
end
set_option maxHeartbeats 4000000 in
set_option maxRecDepth 100000 in
theorem A_isWell {l : Launch} {D : va_G} {k : Nat → ClassId} {B : Nat → Nat} {A0 : Nat → Nat → Nat} {o : OB} {u : CS} {S : Nat → CS} {sv : Nat → Int32} {T : Nat} (h : AT o u S sv) (hw : WL u T) (hT : T ≤ 9999) : mI l yL_isWell (wsY yL_isWell cL_isWell 12 (some .boolean)) 4 D k [.ref (B 0)] (OW k B A0 o) (OW k B A0 o) (nI 1) := by
  refine mI_intro rfl (Nat.le_of_ble_eq_true rfl) (Or.inr ⟨rfl, rfl⟩) ?_
  intro p e s m args below meth c A Q ls X hW hl hQ
  have hx := X.hx
  have hb := X.hb
  have hW := hW.eq (List.append_nil _).symm
  have hl : lv_has ls 12 [(0, .ref (B 0))] := hl
  obtain ⟨row, hR, hn, h3⟩ := hw.2.2.2.2.2
  refine lv_aload_n hx hb dL_isWell_0 rfl (lv_at hl 0 rfl) ?_
  refine lv_iconst (v := nI 1) hx hb dL_isWell_1 (by decide +kernel) ?_
  refine k_o (As := [.int (nI 1)]) (rest := []) X hW (A_count h (j := 1) (by decide)) yw_X4_count lk_L_24 ⟨Nat.le_of_ble_eq_true rfl, Nat.le_of_ble_eq_true rfl⟩ rfl hl.1 rfl (Nat.le_of_ble_eq_true rfl) ⟨Nat.zero_le _, Nat.zero_le _⟩ dL_isWell_2 (fun H locs hW => ?_)
  refine lv_aload_n hx hb dL_isWell_5 rfl (lv_at hl 0 rfl) ?_
  refine lv_iconst (v := nI 2) hx hb dL_isWell_6 (by decide +kernel) ?_
  refine k_o (As := [.int (nI 2)]) (rest := [.int (ctr u (nI 1))]) X hW (A_count h (j := 2) (by decide)) yw_X4_count lk_L_24 ⟨Nat.le_of_ble_eq_true rfl, Nat.le_of_ble_eq_true rfl⟩ rfl hl.1 rfl (Nat.le_of_ble_eq_true rfl) ⟨Nat.zero_le _, Nat.zero_le _⟩ dL_isWell_7 (fun H locs hW => ?_)
  refine lv_aload_n hx hb dL_isWell_10 rfl (lv_at hl 0 rfl) ?_
  refine lv_iconst (v := nI 3) hx hb dL_isWell_11 (by decide +kernel) ?_
  refine k_o (As := [.int (nI 3)]) (rest := [.int (ctr u (nI 2)), .int (ctr u (nI 1))]) X hW (A_count h (j := 3) (by decide)) yw_X4_count lk_L_24 ⟨Nat.le_of_ble_eq_true rfl, Nat.le_of_ble_eq_true rfl⟩ rfl hl.1 rfl (Nat.le_of_ble_eq_true rfl) ⟨Nat.zero_le _, Nat.zero_le _⟩ dL_isWell_12 (fun H locs hW => ?_)
  refine lv_iadd hx hb dL_isWell_15 ?_
  refine lv_aload_n hx hb dL_isWell_16 rfl (lv_at hl 0 rfl) ?_
  refine lv_iconst (v := nI 4) hx hb dL_isWell_17 (by decide +kernel) ?_
  refine k_o (As := [.int (nI 4)]) (rest := [.int ((ctr u (nI 2)) + (ctr u (nI 3))), .int (ctr u (nI 1))]) X hW (A_count h (j := 4) (by decide)) yw_X4_count lk_L_24 ⟨Nat.le_of_ble_eq_true rfl, Nat.le_of_ble_eq_true rfl⟩ rfl hl.1 rfl (Nat.le_of_ble_eq_true rfl) ⟨Nat.zero_le _, Nat.zero_le _⟩ dL_isWell_18 (fun H locs hW => ?_)
  refine lv_iadd hx hb dL_isWell_21 ?_
  refine lv_icmp_ne (tgt := 84) hx hb dL_isWell_22 (by decide) (fun c0 => absurd (W_tot hw) c0) (fun _ => ?_)
  refine lv_aload_n hx hb dL_isWell_25 rfl (lv_at hl 0 rfl) ?_
  refine lv_iconst (v := nI 2) hx hb dL_isWell_26 (by decide +kernel) ?_
  refine k_o (As := [.int (nI 2)]) (rest := []) X hW (A_count h (j := 2) (by decide)) yw_X4_count lk_L_24 ⟨Nat.le_of_ble_eq_true rfl, Nat.le_of_ble_eq_true rfl⟩ rfl hl.1 rfl (Nat.le_of_ble_eq_true rfl) ⟨Nat.zero_le _, Nat.zero_le _⟩ dL_isWell_27 (fun H locs hW => ?_)
  refine lv_aload_n hx hb dL_isWell_30 rfl (lv_at hl 0 rfl) ?_
  refine lv_iconst (v := nI 3) hx hb dL_isWell_31 (by decide +kernel) ?_
  refine kSw (As := [.ref (B 0), .int (nI 3)]) (rest := [.int (ctr u (nI 2))]) X hW (A_sum h (nI 3)) yw_L_sum lk_L_57 ⟨Nat.le_of_ble_eq_true rfl, Nat.le_of_ble_eq_true rfl⟩ (wr := []) (w' := OW k B A0 o ++ []) List.perm_append_comm List.perm_append_comm rfl hl.1 rfl (Nat.le_of_ble_eq_true rfl) ⟨Nat.zero_le _, Nat.zero_le _⟩ dL_isWell_32 (fun H locs hW => ?_)
  refine lv_icmp_ne (tgt := 84) hx hb dL_isWell_35 (by decide) (fun c0 => absurd ((ctr_2 u).trans (tot_sm u _)) c0) (fun _ => ?_)
  refine lv_aload_n hx hb dL_isWell_38 rfl (lv_at hl 0 rfl) ?_
  refine lv_iconst (v := nI 3) hx hb dL_isWell_39 (by decide +kernel) ?_
  refine k_o (As := [.int (nI 3)]) (rest := []) X hW (A_count h (j := 3) (by decide)) yw_X4_count lk_L_24 ⟨Nat.le_of_ble_eq_true rfl, Nat.le_of_ble_eq_true rfl⟩ rfl hl.1 rfl (Nat.le_of_ble_eq_true rfl) ⟨Nat.zero_le _, Nat.zero_le _⟩ dL_isWell_40 (fun H locs hW => ?_)
  refine lv_aload_n hx hb dL_isWell_43 rfl (lv_at hl 0 rfl) ?_
  refine lv_bipush (v := nI 7) hx hb dL_isWell_44 (by decide +kernel) ?_
  refine kSw (As := [.ref (B 0), .int (nI 7)]) (rest := [.int (ctr u (nI 3))]) X hW (A_sum h (nI 7)) yw_L_sum lk_L_57 ⟨Nat.le_of_ble_eq_true rfl, Nat.le_of_ble_eq_true rfl⟩ (wr := []) (w' := OW k B A0 o ++ []) List.perm_append_comm List.perm_append_comm rfl hl.1 rfl (Nat.le_of_ble_eq_true rfl) ⟨Nat.zero_le _, Nat.zero_le _⟩ dL_isWell_46 (fun H locs hW => ?_)
  refine lv_icmp_ne (tgt := 84) hx hb dL_isWell_49 (by decide) (fun c0 => absurd ((ctr_3 u).trans (tot_sm u _)) c0) (fun _ => ?_)
  refine lv_aload_n hx hb dL_isWell_52 rfl (lv_at hl 0 rfl) ?_
  refine lv_iconst (v := nI 4) hx hb dL_isWell_53 (by decide +kernel) ?_
  refine k_o (As := [.int (nI 4)]) (rest := []) X hW (A_count h (j := 4) (by decide)) yw_X4_count lk_L_24 ⟨Nat.le_of_ble_eq_true rfl, Nat.le_of_ble_eq_true rfl⟩ rfl hl.1 rfl (Nat.le_of_ble_eq_true rfl) ⟨Nat.zero_le _, Nat.zero_le _⟩ dL_isWell_54 (fun H locs hW => ?_)
  refine lv_aload_n hx hb dL_isWell_57 rfl (lv_at hl 0 rfl) ?_
  refine lv_bipush (v := nI 8) hx hb dL_isWell_58 (by decide +kernel) ?_
  refine kSw (As := [.ref (B 0), .int (nI 8)]) (rest := [.int (ctr u (nI 4))]) X hW (A_sum h (nI 8)) yw_L_sum lk_L_57 ⟨Nat.le_of_ble_eq_true rfl, Nat.le_of_ble_eq_true rfl⟩ (wr := []) (w' := OW k B A0 o ++ []) List.perm_append_comm List.perm_append_comm rfl hl.1 rfl (Nat.le_of_ble_eq_true rfl) ⟨Nat.zero_le _, Nat.zero_le _⟩ dL_isWell_60 (fun H locs hW => ?_)
  refine lv_icmp_ne (tgt := 84) hx hb dL_isWell_63 (by decide) (fun c0 => absurd ((ctr_4 u).trans (tot_sm u _)) c0) (fun _ => ?_)
  refine lv_aload_n hx hb dL_isWell_66 rfl (lv_at hl 0 rfl) ?_
  refine lv_iconst (v := nI 5) hx hb dL_isWell_67 (by decide +kernel) ?_
  refine k_o (As := [.int (nI 5)]) (rest := []) X hW (A_count h (j := 5) (by decide)) yw_X4_count lk_L_24 ⟨Nat.le_of_ble_eq_true rfl, Nat.le_of_ble_eq_true rfl⟩ rfl hl.1 rfl (Nat.le_of_ble_eq_true rfl) ⟨Nat.zero_le _, Nat.zero_le _⟩ dL_isWell_68 (fun H locs hW => ?_)
  refine lv_aload_n hx hb dL_isWell_71 rfl (lv_at hl 0 rfl) ?_
  refine lv_bipush (v := nI 6) hx hb dL_isWell_72 (by decide +kernel) ?_
  refine kSw (As := [.ref (B 0), .int (nI 6)]) (rest := [.int (ctr u (nI 5))]) X hW (A_sum h (nI 6)) yw_L_sum lk_L_57 ⟨Nat.le_of_ble_eq_true rfl, Nat.le_of_ble_eq_true rfl⟩ (wr := []) (w' := OW k B A0 o ++ []) List.perm_append_comm List.perm_append_comm rfl hl.1 rfl (Nat.le_of_ble_eq_true rfl) ⟨Nat.zero_le _, Nat.zero_le _⟩ dL_isWell_74 (fun H locs hW => ?_)
  refine lv_icmp_ne (tgt := 84) hx hb dL_isWell_77 (by decide) (fun c0 => absurd ((ctr_5 u).trans (tot_sm u _)) c0) (fun _ => ?_)
  refine lv_iconst (v := nI 1) hx hb dL_isWell_80 (by decide +kernel) ?_
  refine lv_goto (tgt := 85) hx hb dL_isWell_81 (by decide) ?_
  refine lv_istore_n (lv' := [(1, .int (nI 1)), (0, .ref (B 0))]) hx hb dL_isWell_85 rfl hl (by decide) rfl (fun ls hl => ?_)
  refine lv_iconst (v := nI 0) hx hb dL_isWell_86 (by decide +kernel) ?_
  refine lv_istore_n (lv' := [(2, .int (nI 0)), (1, .int (nI 1)), (0, .ref (B 0))]) hx hb dL_isWell_87 rfl hl (by decide) rfl (fun ls hl => ?_)
  refine lv_iconst (v := nI 0) hx hb dL_isWell_88 (by decide +kernel) ?_
  refine lv_istore_n (lv' := [(3, .int (nI 0)), (2, .int (nI 0)), (1, .int (nI 1)), (0, .ref (B 0))]) hx hb dL_isWell_89 rfl hl (by decide) rfl (fun ls hl => ?_)
  refine well_rows X h hw hT hR hn h3 ?_ 3 0 rfl _ _ _ hW ?_
  · intro H locs ls hW hl
    refine lv_iload_n hx hb dL_isWell_157 rfl (lv_at hl 1 rfl) ?_
    refine lv_if_eq (tgt := 174) hx hb dL_isWell_158 (by decide) (fun c0 => absurd c0 (by decide +kernel)) (fun _ => ?_)
    refine lv_iload_n hx hb dL_isWell_161 rfl (lv_at hl 0 rfl) ?_
    refine lv_aload_n hx hb dL_isWell_162 rfl (lv_at hl 2 rfl) ?_
    refine lv_iconst (v := nI 4) hx hb dL_isWell_163 (by decide +kernel) ?_
    refine kSw (As := [.ref (B 0), .int (nI 4)]) (rest := [.int (nI row.length)]) X hW (A_sum h (nI 4)) yw_L_sum lk_L_57 ⟨Nat.le_of_ble_eq_true rfl, Nat.le_of_ble_eq_true rfl⟩ (wr := []) (w' := OW k B A0 o ++ []) List.perm_append_comm List.perm_append_comm rfl hl.1 rfl (Nat.le_of_ble_eq_true rfl) ⟨Nat.zero_le _, Nat.zero_le _⟩ dL_isWell_164 (fun H locs hW => ?_)
    refine lv_icmp_ne (tgt := 174) hx hb dL_isWell_167 (by decide) (fun c0 => absurd (sum4 hR hn h3) c0) (fun _ => ?_)
    refine lv_iconst (v := nI 1) hx hb dL_isWell_170 (by decide +kernel) ?_
    refine lv_goto (tgt := 175) hx hb dL_isWell_171 (by decide) ?_
    refine lv_istore_n (lv' := [(1, .int (nI 1)), (2, .int (nI row.length)), (0, .ref (B 0))]) hx hb dL_isWell_175 rfl hl (by decide) rfl (fun ls hl => ?_)
    refine lv_iconst (v := nI 0) hx hb dL_isWell_176 (by decide +kernel) ?_
    refine lv_istore_n (lv' := [(3, .int (nI 0)), (1, .int (nI 1)), (2, .int (nI row.length)), (0, .ref (B 0))]) hx hb dL_isWell_177 rfl hl (by decide) rfl (fun ls hl => ?_)
    refine well_queue X h hw hT (q := 0) (by decide) ?_ _ _ _ hW (lv_sub hl [0, 1, 3] rfl)
    intro H locs ls hW hl
    refine well_queue X h hw hT (q := 1) (by decide) ?_ _ _ _ hW hl
    intro H locs ls hW hl
    refine well_queue X h hw hT (q := 2) (by decide) ?_ _ _ _ hW hl
    intro H locs ls hW hl
    refine lv_iload_n hx hb dL_isWell_178 rfl (lv_at hl 0 rfl) ?_
    refine lv_iconst (v := nI 3) hx hb dL_isWell_179 (by decide +kernel) ?_
    refine lv_icmp_ge (tgt := 562) hx hb dL_isWell_180 (by decide) (fun _ => ?_) (fun c0 => absurd (Int32.le_refl _) c0)
    refine lv_iload_n hx hb dL_isWell_562 rfl (lv_at hl 1 rfl) ?_
    exact hQ _ _ _ _ _ _ hW dL_isWell_563 rfl (List.append_nil _)
  · have em : min 0 row.length = 0 := by omega
    rw [em]
    exact (lv_sub hl [0, 1, 2, 3] rfl)
