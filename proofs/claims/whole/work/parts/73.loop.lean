/-! THE LAW'S LOOP: each of its cases is one call of the class and one of the reference; they answer alike, and what holds between two calls holds again -/
section
variable {p : Program} {l : Launch} {e : Env} {s : State} {m : MethodId} {below : List Frame} {meth : Method} {c : Code} {H : Heap} {locs : List Loc} {Q : State → Prop} {D : va_G} {k : Nat → ClassId} {P : Nat → Prop} {w : va_W} {pc : Nat} {ls : Array Slot} {rest : List Value} {b L i : Nat} {xs : Nat → Int32}
variable {B : Nat → Nat} {A : Nat → Nat → Nat} {a : Nat → Nat} {V : Nat → CS} {nx sz : Nat} {sv z g zr f kp hi sl svr tx td : Nat → Int32} {q1 q2 : Nat}
/-- a number of the script: four loads and a sum -/
theorem lw_arg (X : KX p s m #[Value.ref b] meth c code 4 lw_tbl RL D k P) (hX : va_X b L xs s s.heap) (hbl : b < s.heap.size) (hbP : ¬ P b) (hL : L ≤ 2048) (hl : lv_has ls 4 [(3, .int (nI i)), (2, .ref q2), (1, .ref q1), (0, .ref b)]) (j : Nat) (hj : i + j < L) (hW : KW D P s w H locs) {n : Int} (d0 : decode code pc = .ok (.aload_n 0, 1)) (d1 : decode code (pc + 1) = .ok (.iload_n 3, 1)) (d2 : decode code (pc + 2) = .ok (.iconst n, 1)) (hn : Int32.ofInt n = nI j) (d3 : decode code (pc + 3) = .ok (.iadd, 1)) (d4 : decode code (pc + 4) = .ok (.iaload, 1))
    (kk : W p l e room_1 s m #[Value.ref b] below meth c H locs 600000 7302250 Q (F0 m (pc + 5) ls (.int (xs (i + j)) :: rest))) : W p l e room_1 s m #[Value.ref b] below meth c H locs 600000 7302250 Q (F0 m pc ls rest) := by
  refine lv_aload_n X.hx X.hb d0 rfl (lv_at hl 3 rfl) ?_
  refine lv_iload_n X.hx X.hb d1 rfl (lv_at hl 0 rfl) ?_
  refine lv_iconst X.hx X.hb d2 hn ?_
  refine lv_iadd X.hx X.hb d3 ?_
  refine k_top (nI_add i j) ?_
  refine va_sld X.hx X.hb hX hbl hbP hW.2.2 (vp_in_nI hj (by omega)) d4 ?_
  refine k_top (congrArg xs (nI_clamp (by omega))) ?_
  exact kk
theorem lw_rcv4 (X : KX p s m #[Value.ref b] meth c code 4 lw_tbl RL D k P) (hW : KW D P s (bigW k B A V (nI nx) (nI sz) sv z g ++ refW k a zr f kp hi sl svr tx td) H locs) : ∃ cell : Cell, H[B 0]? = some cell ∧ cell.vm.isStatics = false ∧ s.vm.findClass RX4 = some cell.cls := by
  obtain ⟨q0, h⟩ := List.mem_iff_getElem?.mp (List.mem_append_left (refW k a zr f kp hi sl svr tx td) (List.mem_cons_self : _ ∈ bigW k B A V (nI nx) (nI sz) sv z g))
  exact k_rcv X hW (ci := 4) rfl h
theorem lw_rcv5 {w : va_W} (X : KX p s m #[Value.ref b] meth c code 4 lw_tbl RL D k P) (hW : KW D P s (w ++ refW k a zr f kp hi sl svr tx td) H locs) : ∃ cell : Cell, H[a 0]? = some cell ∧ cell.vm.isStatics = false ∧ s.vm.findClass RX5 = some cell.cls := by
  obtain ⟨q0, h⟩ := List.mem_iff_getElem?.mp (List.mem_append_right w (List.mem_cons_self : _ ∈ refW k a zr f kp hi sl svr tx td))
  exact k_rcv X hW (ci := 5) rfl h
/-- where a case goes when the two have answered alike -/
def NXT (p : Program) (l : Launch) (e : Env) (s : State) (m : MethodId) (below : List Frame) (meth : Method) (c : Code) (b : Nat) (D : va_G) (k : Nat → ClassId) (P : Nat → Prop) (B : Nat → Nat) (A : Nat → Nat → Nat) (a : Nat → Nat) (Q : State → Prop) (ls : Array Slot) : Prop :=
  ∀ (V : Nat → CS) (nx sz : Nat) (sv z g zr f kp hi sl svr tx td : Nat → Int32) (H : Heap) (locs : List Loc), INV V nx sz sv z g zr f hi sl svr tx td → KW D P s (bigW k B A V (nI nx) (nI sz) sv z g ++ refW k a zr f kp hi sl svr tx td) H locs → W p l e room_1 s m #[Value.ref b] below meth c H locs 600000 7302250 Q (F0 m 685 ls [])
set_option maxHeartbeats 4000000 in
set_option maxRecDepth 100000 in
theorem case_set (X : KX p s m #[Value.ref b] meth c code 4 lw_tbl RL D k P) (hX : va_X b L xs s s.heap) (hbl : b < s.heap.size) (hbP : ¬ P b) (hL : L ≤ 2048) (hl : lv_has ls 4 [(3, .int (nI i)), (2, .ref (a 0)), (1, .ref (B 0)), (0, .ref b)]) (hi4 : i + 4 ≤ L) (h : INV V nx sz sv z g zr f hi sl svr tx td) (hW : KW D P s (bigW k B A V (nI nx) (nI sz) sv z g ++ refW k a zr f kp hi sl svr tx td) H locs) (kk : NXT p l e s m below meth c b D k P B A a Q ls) : W p l e room_1 s m #[Value.ref b] below meth c H locs 600000 7302250 Q (F0 m 132 ls []) := by
  obtain ⟨r, V', nx', sz', sv', z', g', zr', f', kp', hi', sl', svr', tx', td', hC, hR, hI⟩ := L_set (l := l) (D := D) (k := k) (B := B) (A := A) (a := a) (kp := kp) (xs (i + 1)) (xs (i + 2)) h
  refine lv_aload_n X.hx X.hb dL_law_132 rfl (lv_at hl 2 rfl) ?_
  refine lw_arg X hX hbl hbP hL hl 1 (by omega) hW dL_law_133 dL_law_134 dL_law_135 (by decide +kernel) dL_law_136 dL_law_137 ?_
  refine lw_arg X hX hbl hbP hL hl 2 (by omega) hW dL_law_138 dL_law_139 dL_law_140 (by decide +kernel) dL_law_141 dL_law_142 ?_
  refine kVi (rest := []) (As := [.int (xs (i + 1)), .int (xs (i + 2))]) X hW hC yw_X4_set lk_L_13 ⟨Nat.le_of_ble_eq_true rfl, Nat.le_of_ble_eq_true rfl⟩ (wr := refW k a zr f kp hi sl svr tx td) (w' := bigW k B A V' (nI nx') (nI sz') sv' z' g' ++ refW k a zr f kp hi sl svr tx td) List.perm_append_comm List.perm_append_comm (lw_rcv4 X hW) rfl hl.1 rfl (Nat.le_of_ble_eq_true rfl) ⟨Nat.le_of_ble_eq_true rfl, Nat.le_of_ble_eq_true rfl⟩ dL_law_143 (fun H locs hW => ?_)
  refine lv_aload_n X.hx X.hb dL_law_146 rfl (lv_at hl 1 rfl) ?_
  refine lw_arg X hX hbl hbP hL hl 1 (by omega) hW dL_law_147 dL_law_148 dL_law_149 (by decide +kernel) dL_law_150 dL_law_151 ?_
  refine lw_arg X hX hbl hbP hL hl 2 (by omega) hW dL_law_152 dL_law_153 dL_law_154 (by decide +kernel) dL_law_155 dL_law_156 ?_
  refine kVi (rest := [.int r]) (As := [.int (xs (i + 1)), .int (xs (i + 2))]) X hW hR yw_X5_set lk_L_17 ⟨Nat.le_of_ble_eq_true rfl, Nat.le_of_ble_eq_true rfl⟩ (wr := bigW k B A V' (nI nx') (nI sz') sv' z' g') (w' := bigW k B A V' (nI nx') (nI sz') sv' z' g' ++ refW k a zr' f' kp' hi' sl' svr' tx' td') (List.Perm.refl _) (List.Perm.refl _) (lw_rcv5 X hW) rfl hl.1 rfl (Nat.le_of_ble_eq_true rfl) ⟨Nat.le_of_ble_eq_true rfl, Nat.le_of_ble_eq_true rfl⟩ dL_law_157 (fun H locs hW => ?_)
  exact lv_icmp_eq (tgt := 685) X.hx X.hb dL_law_160 (by decide) (fun _ => kk _ _ _ _ _ _ _ _ _ _ _ _ _ _ _ _ hI hW) (fun c => absurd rfl c)
set_option maxHeartbeats 4000000 in
set_option maxRecDepth 100000 in
theorem case_bounds (X : KX p s m #[Value.ref b] meth c code 4 lw_tbl RL D k P) (hX : va_X b L xs s s.heap) (hbl : b < s.heap.size) (hbP : ¬ P b) (hL : L ≤ 2048) (hl : lv_has ls 4 [(3, .int (nI i)), (2, .ref (a 0)), (1, .ref (B 0)), (0, .ref b)]) (hi4 : i + 4 ≤ L) (h : INV V nx sz sv z g zr f hi sl svr tx td) (hW : KW D P s (bigW k B A V (nI nx) (nI sz) sv z g ++ refW k a zr f kp hi sl svr tx td) H locs) (kk : NXT p l e s m below meth c b D k P B A a Q ls) : W p l e room_1 s m #[Value.ref b] below meth c H locs 600000 7302250 Q (F0 m 165 ls []) := by
  obtain ⟨r, V', nx', sz', sv', z', g', zr', f', kp', hi', sl', svr', tx', td', hC, hR, hI⟩ := L_bounds (l := l) (D := D) (k := k) (B := B) (A := A) (a := a) (kp := kp) (xs (i + 1)) (xs (i + 2)) (xs (i + 3)) h
  refine lv_aload_n X.hx X.hb dL_law_165 rfl (lv_at hl 2 rfl) ?_
  refine lw_arg X hX hbl hbP hL hl 1 (by omega) hW dL_law_166 dL_law_167 dL_law_168 (by decide +kernel) dL_law_169 dL_law_170 ?_
  refine lw_arg X hX hbl hbP hL hl 2 (by omega) hW dL_law_171 dL_law_172 dL_law_173 (by decide +kernel) dL_law_174 dL_law_175 ?_
  refine lw_arg X hX hbl hbP hL hl 3 (by omega) hW dL_law_176 dL_law_177 dL_law_178 (by decide +kernel) dL_law_179 dL_law_180 ?_
  refine kVi (rest := []) (As := [.int (xs (i + 1)), .int (xs (i + 2)), .int (xs (i + 3))]) X hW hC yw_X4_bounds lk_L_18 ⟨Nat.le_of_ble_eq_true rfl, Nat.le_of_ble_eq_true rfl⟩ (wr := refW k a zr f kp hi sl svr tx td) (w' := bigW k B A V' (nI nx') (nI sz') sv' z' g' ++ refW k a zr f kp hi sl svr tx td) List.perm_append_comm List.perm_append_comm (lw_rcv4 X hW) rfl hl.1 rfl (Nat.le_of_ble_eq_true rfl) ⟨Nat.le_of_ble_eq_true rfl, Nat.le_of_ble_eq_true rfl⟩ dL_law_181 (fun H locs hW => ?_)
  refine lv_aload_n X.hx X.hb dL_law_184 rfl (lv_at hl 1 rfl) ?_
  refine lw_arg X hX hbl hbP hL hl 1 (by omega) hW dL_law_185 dL_law_186 dL_law_187 (by decide +kernel) dL_law_188 dL_law_189 ?_
  refine lw_arg X hX hbl hbP hL hl 2 (by omega) hW dL_law_190 dL_law_191 dL_law_192 (by decide +kernel) dL_law_193 dL_law_194 ?_
  refine lw_arg X hX hbl hbP hL hl 3 (by omega) hW dL_law_195 dL_law_196 dL_law_197 (by decide +kernel) dL_law_198 dL_law_199 ?_
  refine kVi (rest := [.int r]) (As := [.int (xs (i + 1)), .int (xs (i + 2)), .int (xs (i + 3))]) X hW hR yw_X5_bounds lk_L_22 ⟨Nat.le_of_ble_eq_true rfl, Nat.le_of_ble_eq_true rfl⟩ (wr := bigW k B A V' (nI nx') (nI sz') sv' z' g') (w' := bigW k B A V' (nI nx') (nI sz') sv' z' g' ++ refW k a zr' f' kp' hi' sl' svr' tx' td') (List.Perm.refl _) (List.Perm.refl _) (lw_rcv5 X hW) rfl hl.1 rfl (Nat.le_of_ble_eq_true rfl) ⟨Nat.le_of_ble_eq_true rfl, Nat.le_of_ble_eq_true rfl⟩ dL_law_200 (fun H locs hW => ?_)
  exact lv_icmp_eq (tgt := 685) X.hx X.hb dL_law_203 (by decide) (fun _ => kk _ _ _ _ _ _ _ _ _ _ _ _ _ _ _ _ hI hW) (fun c => absurd rfl c)
set_option maxHeartbeats 4000000 in
set_option maxRecDepth 100000 in
theorem case_come (X : KX p s m #[Value.ref b] meth c code 4 lw_tbl RL D k P) (hX : va_X b L xs s s.heap) (hbl : b < s.heap.size) (hbP : ¬ P b) (hL : L ≤ 2048) (hl : lv_has ls 4 [(3, .int (nI i)), (2, .ref (a 0)), (1, .ref (B 0)), (0, .ref b)]) (hi4 : i + 4 ≤ L) (h : INV V nx sz sv z g zr f hi sl svr tx td) (hW : KW D P s (bigW k B A V (nI nx) (nI sz) sv z g ++ refW k a zr f kp hi sl svr tx td) H locs) (kk : NXT p l e s m below meth c b D k P B A a Q ls) : W p l e room_1 s m #[Value.ref b] below meth c H locs 600000 7302250 Q (F0 m 208 ls []) := by
  obtain ⟨r, V', nx', sz', sv', z', g', zr', f', kp', hi', sl', svr', tx', td', hC, hR, hI⟩ := L_come (l := l) (D := D) (k := k) (B := B) (A := A) (a := a) (kp := kp) (xs (i + 1)) h
  refine lv_aload_n X.hx X.hb dL_law_208 rfl (lv_at hl 2 rfl) ?_
  refine lw_arg X hX hbl hbP hL hl 1 (by omega) hW dL_law_209 dL_law_210 dL_law_211 (by decide +kernel) dL_law_212 dL_law_213 ?_
  refine kVi (rest := []) (As := [.int (xs (i + 1))]) X hW hC yw_X4_come lk_L_23 ⟨Nat.le_of_ble_eq_true rfl, Nat.le_of_ble_eq_true rfl⟩ (wr := refW k a zr f kp hi sl svr tx td) (w' := bigW k B A V' (nI nx') (nI sz') sv' z' g' ++ refW k a zr f kp hi sl svr tx td) List.perm_append_comm List.perm_append_comm (lw_rcv4 X hW) rfl hl.1 rfl (Nat.le_of_ble_eq_true rfl) ⟨Nat.le_of_ble_eq_true rfl, Nat.le_of_ble_eq_true rfl⟩ dL_law_214 (fun H locs hW => ?_)
  refine lv_aload_n X.hx X.hb dL_law_217 rfl (lv_at hl 1 rfl) ?_
  refine lw_arg X hX hbl hbP hL hl 1 (by omega) hW dL_law_218 dL_law_219 dL_law_220 (by decide +kernel) dL_law_221 dL_law_222 ?_
  refine kVi (rest := [.int r]) (As := [.int (xs (i + 1))]) X hW hR yw_X5_come lk_L_27 ⟨Nat.le_of_ble_eq_true rfl, Nat.le_of_ble_eq_true rfl⟩ (wr := bigW k B A V' (nI nx') (nI sz') sv' z' g') (w' := bigW k B A V' (nI nx') (nI sz') sv' z' g' ++ refW k a zr' f' kp' hi' sl' svr' tx' td') (List.Perm.refl _) (List.Perm.refl _) (lw_rcv5 X hW) rfl hl.1 rfl (Nat.le_of_ble_eq_true rfl) ⟨Nat.le_of_ble_eq_true rfl, Nat.le_of_ble_eq_true rfl⟩ dL_law_223 (fun H locs hW => ?_)
  exact lv_icmp_eq (tgt := 685) X.hx X.hb dL_law_226 (by decide) (fun _ => kk _ _ _ _ _ _ _ _ _ _ _ _ _ _ _ _ hI hW) (fun c => absurd rfl c)
set_option maxHeartbeats 4000000 in
set_option maxRecDepth 100000 in
theorem case_mask (X : KX p s m #[Value.ref b] meth c code 4 lw_tbl RL D k P) (hX : va_X b L xs s s.heap) (hbl : b < s.heap.size) (hbP : ¬ P b) (hL : L ≤ 2048) (hl : lv_has ls 4 [(3, .int (nI i)), (2, .ref (a 0)), (1, .ref (B 0)), (0, .ref b)]) (hi4 : i + 4 ≤ L) (h : INV V nx sz sv z g zr f hi sl svr tx td) (hW : KW D P s (bigW k B A V (nI nx) (nI sz) sv z g ++ refW k a zr f kp hi sl svr tx td) H locs) (kk : NXT p l e s m below meth c b D k P B A a Q ls) : W p l e room_1 s m #[Value.ref b] below meth c H locs 600000 7302250 Q (F0 m 231 ls []) := by
  obtain ⟨r, V', nx', sz', sv', z', g', zr', f', kp', hi', sl', svr', tx', td', hC, hR, hI⟩ := L_mask (l := l) (D := D) (k := k) (B := B) (A := A) (a := a) (kp := kp) (xs (i + 1)) h
  refine lv_aload_n X.hx X.hb dL_law_231 rfl (lv_at hl 2 rfl) ?_
  refine lw_arg X hX hbl hbP hL hl 1 (by omega) hW dL_law_232 dL_law_233 dL_law_234 (by decide +kernel) dL_law_235 dL_law_236 ?_
  refine kVi (rest := []) (As := [.int (xs (i + 1))]) X hW hC yw_X4_mask lk_L_28 ⟨Nat.le_of_ble_eq_true rfl, Nat.le_of_ble_eq_true rfl⟩ (wr := refW k a zr f kp hi sl svr tx td) (w' := bigW k B A V' (nI nx') (nI sz') sv' z' g' ++ refW k a zr f kp hi sl svr tx td) List.perm_append_comm List.perm_append_comm (lw_rcv4 X hW) rfl hl.1 rfl (Nat.le_of_ble_eq_true rfl) ⟨Nat.le_of_ble_eq_true rfl, Nat.le_of_ble_eq_true rfl⟩ dL_law_237 (fun H locs hW => ?_)
  refine lv_aload_n X.hx X.hb dL_law_240 rfl (lv_at hl 1 rfl) ?_
  refine lw_arg X hX hbl hbP hL hl 1 (by omega) hW dL_law_241 dL_law_242 dL_law_243 (by decide +kernel) dL_law_244 dL_law_245 ?_
  refine kVi (rest := [.int r]) (As := [.int (xs (i + 1))]) X hW hR yw_X5_mask lk_L_31 ⟨Nat.le_of_ble_eq_true rfl, Nat.le_of_ble_eq_true rfl⟩ (wr := bigW k B A V' (nI nx') (nI sz') sv' z' g') (w' := bigW k B A V' (nI nx') (nI sz') sv' z' g' ++ refW k a zr' f' kp' hi' sl' svr' tx' td') (List.Perm.refl _) (List.Perm.refl _) (lw_rcv5 X hW) rfl hl.1 rfl (Nat.le_of_ble_eq_true rfl) ⟨Nat.le_of_ble_eq_true rfl, Nat.le_of_ble_eq_true rfl⟩ dL_law_246 (fun H locs hW => ?_)
  exact lv_icmp_eq (tgt := 685) X.hx X.hb dL_law_249 (by decide) (fun _ => kk _ _ _ _ _ _ _ _ _ _ _ _ _ _ _ _ hI hW) (fun c => absurd rfl c)
set_option maxHeartbeats 4000000 in
set_option maxRecDepth 100000 in
theorem case_call (X : KX p s m #[Value.ref b] meth c code 4 lw_tbl RL D k P) (hX : va_X b L xs s s.heap) (hbl : b < s.heap.size) (hbP : ¬ P b) (hL : L ≤ 2048) (hl : lv_has ls 4 [(3, .int (nI i)), (2, .ref (a 0)), (1, .ref (B 0)), (0, .ref b)]) (hi4 : i + 4 ≤ L) (h : INV V nx sz sv z g zr f hi sl svr tx td) (hW : KW D P s (bigW k B A V (nI nx) (nI sz) sv z g ++ refW k a zr f kp hi sl svr tx td) H locs) (kk : NXT p l e s m below meth c b D k P B A a Q ls) : W p l e room_1 s m #[Value.ref b] below meth c H locs 600000 7302250 Q (F0 m 254 ls []) := by
  obtain ⟨r, V', nx', sz', sv', z', g', zr', f', kp', hi', sl', svr', tx', td', hC, hR, hI⟩ := L_call (l := l) (D := D) (k := k) (B := B) (A := A) (a := a) (kp := kp) (xs (i + 1)) h
  refine lv_aload_n X.hx X.hb dL_law_254 rfl (lv_at hl 2 rfl) ?_
  refine lw_arg X hX hbl hbP hL hl 1 (by omega) hW dL_law_255 dL_law_256 dL_law_257 (by decide +kernel) dL_law_258 dL_law_259 ?_
  refine kVi (rest := []) (As := [.int (xs (i + 1))]) X hW hC yw_X4_call lk_L_32 ⟨Nat.le_of_ble_eq_true rfl, Nat.le_of_ble_eq_true rfl⟩ (wr := refW k a zr f kp hi sl svr tx td) (w' := bigW k B A V' (nI nx') (nI sz') sv' z' g' ++ refW k a zr f kp hi sl svr tx td) List.perm_append_comm List.perm_append_comm (lw_rcv4 X hW) rfl hl.1 rfl (Nat.le_of_ble_eq_true rfl) ⟨Nat.le_of_ble_eq_true rfl, Nat.le_of_ble_eq_true rfl⟩ dL_law_260 (fun H locs hW => ?_)
  refine lv_aload_n X.hx X.hb dL_law_263 rfl (lv_at hl 1 rfl) ?_
  refine lw_arg X hX hbl hbP hL hl 1 (by omega) hW dL_law_264 dL_law_265 dL_law_266 (by decide +kernel) dL_law_267 dL_law_268 ?_
  refine kVi (rest := [.int r]) (As := [.int (xs (i + 1))]) X hW hR yw_X5_call lk_L_35 ⟨Nat.le_of_ble_eq_true rfl, Nat.le_of_ble_eq_true rfl⟩ (wr := bigW k B A V' (nI nx') (nI sz') sv' z' g') (w' := bigW k B A V' (nI nx') (nI sz') sv' z' g' ++ refW k a zr' f' kp' hi' sl' svr' tx' td') (List.Perm.refl _) (List.Perm.refl _) (lw_rcv5 X hW) rfl hl.1 rfl (Nat.le_of_ble_eq_true rfl) ⟨Nat.le_of_ble_eq_true rfl, Nat.le_of_ble_eq_true rfl⟩ dL_law_269 (fun H locs hW => ?_)
  exact lv_icmp_eq (tgt := 685) X.hx X.hb dL_law_272 (by decide) (fun _ => kk _ _ _ _ _ _ _ _ _ _ _ _ _ _ _ _ hI hW) (fun c => absurd rfl c)
set_option maxHeartbeats 4000000 in
set_option maxRecDepth 100000 in
theorem case_pass (X : KX p s m #[Value.ref b] meth c code 4 lw_tbl RL D k P) (hX : va_X b L xs s s.heap) (hbl : b < s.heap.size) (hbP : ¬ P b) (hL : L ≤ 2048) (hl : lv_has ls 4 [(3, .int (nI i)), (2, .ref (a 0)), (1, .ref (B 0)), (0, .ref b)]) (hi4 : i + 4 ≤ L) (h : INV V nx sz sv z g zr f hi sl svr tx td) (hW : KW D P s (bigW k B A V (nI nx) (nI sz) sv z g ++ refW k a zr f kp hi sl svr tx td) H locs) (kk : NXT p l e s m below meth c b D k P B A a Q ls) : W p l e room_1 s m #[Value.ref b] below meth c H locs 600000 7302250 Q (F0 m 277 ls []) := by
  obtain ⟨r, V', nx', sz', sv', z', g', zr', f', kp', hi', sl', svr', tx', td', hC, hR, hI⟩ := L_pass (l := l) (D := D) (k := k) (B := B) (A := A) (a := a) (kp := kp) (xs (i + 1)) h
  refine lv_aload_n X.hx X.hb dL_law_277 rfl (lv_at hl 2 rfl) ?_
  refine lw_arg X hX hbl hbP hL hl 1 (by omega) hW dL_law_278 dL_law_279 dL_law_280 (by decide +kernel) dL_law_281 dL_law_282 ?_
  refine kVi (rest := []) (As := [.int (xs (i + 1))]) X hW hC yw_X4_pass lk_L_36 ⟨Nat.le_of_ble_eq_true rfl, Nat.le_of_ble_eq_true rfl⟩ (wr := refW k a zr f kp hi sl svr tx td) (w' := bigW k B A V' (nI nx') (nI sz') sv' z' g' ++ refW k a zr f kp hi sl svr tx td) List.perm_append_comm List.perm_append_comm (lw_rcv4 X hW) rfl hl.1 rfl (Nat.le_of_ble_eq_true rfl) ⟨Nat.le_of_ble_eq_true rfl, Nat.le_of_ble_eq_true rfl⟩ dL_law_283 (fun H locs hW => ?_)
  refine lv_aload_n X.hx X.hb dL_law_286 rfl (lv_at hl 1 rfl) ?_
  refine lw_arg X hX hbl hbP hL hl 1 (by omega) hW dL_law_287 dL_law_288 dL_law_289 (by decide +kernel) dL_law_290 dL_law_291 ?_
  refine kVi (rest := [.int r]) (As := [.int (xs (i + 1))]) X hW hR yw_X5_pass lk_L_39 ⟨Nat.le_of_ble_eq_true rfl, Nat.le_of_ble_eq_true rfl⟩ (wr := bigW k B A V' (nI nx') (nI sz') sv' z' g') (w' := bigW k B A V' (nI nx') (nI sz') sv' z' g' ++ refW k a zr' f' kp' hi' sl' svr' tx' td') (List.Perm.refl _) (List.Perm.refl _) (lw_rcv5 X hW) rfl hl.1 rfl (Nat.le_of_ble_eq_true rfl) ⟨Nat.le_of_ble_eq_true rfl, Nat.le_of_ble_eq_true rfl⟩ dL_law_292 (fun H locs hW => ?_)
  exact lv_icmp_eq (tgt := 685) X.hx X.hb dL_law_295 (by decide) (fun _ => kk _ _ _ _ _ _ _ _ _ _ _ _ _ _ _ _ hI hW) (fun c => absurd rfl c)
set_option maxHeartbeats 4000000 in
set_option maxRecDepth 100000 in
theorem case_of (X : KX p s m #[Value.ref b] meth c code 4 lw_tbl RL D k P) (hX : va_X b L xs s s.heap) (hbl : b < s.heap.size) (hbP : ¬ P b) (hL : L ≤ 2048) (hl : lv_has ls 4 [(3, .int (nI i)), (2, .ref (a 0)), (1, .ref (B 0)), (0, .ref b)]) (hi4 : i + 4 ≤ L) (h : INV V nx sz sv z g zr f hi sl svr tx td) (hW : KW D P s (bigW k B A V (nI nx) (nI sz) sv z g ++ refW k a zr f kp hi sl svr tx td) H locs) (kk : NXT p l e s m below meth c b D k P B A a Q ls) : W p l e room_1 s m #[Value.ref b] below meth c H locs 600000 7302250 Q (F0 m 300 ls []) := by
  obtain ⟨r, V', nx', sz', sv', z', g', zr', f', kp', hi', sl', svr', tx', td', hC, hR, hI⟩ := L_of (l := l) (D := D) (k := k) (B := B) (A := A) (a := a) (kp := kp) (xs (i + 1)) (xs (i + 2)) h
  refine lv_aload_n X.hx X.hb dL_law_300 rfl (lv_at hl 2 rfl) ?_
  refine lw_arg X hX hbl hbP hL hl 1 (by omega) hW dL_law_301 dL_law_302 dL_law_303 (by decide +kernel) dL_law_304 dL_law_305 ?_
  refine lw_arg X hX hbl hbP hL hl 2 (by omega) hW dL_law_306 dL_law_307 dL_law_308 (by decide +kernel) dL_law_309 dL_law_310 ?_
  refine kVi (rest := []) (As := [.int (xs (i + 1)), .int (xs (i + 2))]) X hW hC yw_X4_of lk_L_40 ⟨Nat.le_of_ble_eq_true rfl, Nat.le_of_ble_eq_true rfl⟩ (wr := refW k a zr f kp hi sl svr tx td) (w' := bigW k B A V' (nI nx') (nI sz') sv' z' g' ++ refW k a zr f kp hi sl svr tx td) List.perm_append_comm List.perm_append_comm (lw_rcv4 X hW) rfl hl.1 rfl (Nat.le_of_ble_eq_true rfl) ⟨Nat.le_of_ble_eq_true rfl, Nat.le_of_ble_eq_true rfl⟩ dL_law_311 (fun H locs hW => ?_)
  refine lv_aload_n X.hx X.hb dL_law_314 rfl (lv_at hl 1 rfl) ?_
  refine lw_arg X hX hbl hbP hL hl 1 (by omega) hW dL_law_315 dL_law_316 dL_law_317 (by decide +kernel) dL_law_318 dL_law_319 ?_
  refine lw_arg X hX hbl hbP hL hl 2 (by omega) hW dL_law_320 dL_law_321 dL_law_322 (by decide +kernel) dL_law_323 dL_law_324 ?_
  refine kVi (rest := [.int r]) (As := [.int (xs (i + 1)), .int (xs (i + 2))]) X hW hR yw_X5_of lk_L_43 ⟨Nat.le_of_ble_eq_true rfl, Nat.le_of_ble_eq_true rfl⟩ (wr := bigW k B A V' (nI nx') (nI sz') sv' z' g') (w' := bigW k B A V' (nI nx') (nI sz') sv' z' g' ++ refW k a zr' f' kp' hi' sl' svr' tx' td') (List.Perm.refl _) (List.Perm.refl _) (lw_rcv5 X hW) rfl hl.1 rfl (Nat.le_of_ble_eq_true rfl) ⟨Nat.le_of_ble_eq_true rfl, Nat.le_of_ble_eq_true rfl⟩ dL_law_325 (fun H locs hW => ?_)
  exact lv_icmp_eq (tgt := 685) X.hx X.hb dL_law_328 (by decide) (fun _ => kk _ _ _ _ _ _ _ _ _ _ _ _ _ _ _ _ hI hW) (fun c => absurd rfl c)
set_option maxHeartbeats 4000000 in
set_option maxRecDepth 100000 in
theorem case_frame (X : KX p s m #[Value.ref b] meth c code 4 lw_tbl RL D k P) (hX : va_X b L xs s s.heap) (hbl : b < s.heap.size) (hbP : ¬ P b) (hL : L ≤ 2048) (hl : lv_has ls 4 [(3, .int (nI i)), (2, .ref (a 0)), (1, .ref (B 0)), (0, .ref b)]) (hi4 : i + 4 ≤ L) (h : INV V nx sz sv z g zr f hi sl svr tx td) (hW : KW D P s (bigW k B A V (nI nx) (nI sz) sv z g ++ refW k a zr f kp hi sl svr tx td) H locs) (kk : NXT p l e s m below meth c b D k P B A a Q ls) : W p l e room_1 s m #[Value.ref b] below meth c H locs 600000 7302250 Q (F0 m 333 ls []) := by
  obtain ⟨r, V', nx', sz', sv', z', g', zr', f', kp', hi', sl', svr', tx', td', hC, hR, hI⟩ := L_frame (l := l) (D := D) (k := k) (B := B) (A := A) (a := a) (kp := kp) (xs (i + 1)) (xs (i + 2)) h
  refine lv_aload_n X.hx X.hb dL_law_333 rfl (lv_at hl 2 rfl) ?_
  refine lw_arg X hX hbl hbP hL hl 1 (by omega) hW dL_law_334 dL_law_335 dL_law_336 (by decide +kernel) dL_law_337 dL_law_338 ?_
  refine lw_arg X hX hbl hbP hL hl 2 (by omega) hW dL_law_339 dL_law_340 dL_law_341 (by decide +kernel) dL_law_342 dL_law_343 ?_
  refine kVi (rest := []) (As := [.int (xs (i + 1)), .int (xs (i + 2))]) X hW hC yw_X4_frame lk_L_44 ⟨Nat.le_of_ble_eq_true rfl, Nat.le_of_ble_eq_true rfl⟩ (wr := refW k a zr f kp hi sl svr tx td) (w' := bigW k B A V' (nI nx') (nI sz') sv' z' g' ++ refW k a zr f kp hi sl svr tx td) List.perm_append_comm List.perm_append_comm (lw_rcv4 X hW) rfl hl.1 rfl (Nat.le_of_ble_eq_true rfl) ⟨Nat.le_of_ble_eq_true rfl, Nat.le_of_ble_eq_true rfl⟩ dL_law_344 (fun H locs hW => ?_)
  refine lv_aload_n X.hx X.hb dL_law_347 rfl (lv_at hl 1 rfl) ?_
  refine lw_arg X hX hbl hbP hL hl 1 (by omega) hW dL_law_348 dL_law_349 dL_law_350 (by decide +kernel) dL_law_351 dL_law_352 ?_
  refine lw_arg X hX hbl hbP hL hl 2 (by omega) hW dL_law_353 dL_law_354 dL_law_355 (by decide +kernel) dL_law_356 dL_law_357 ?_
  refine kVi (rest := [.int r]) (As := [.int (xs (i + 1)), .int (xs (i + 2))]) X hW hR yw_X5_frame lk_L_47 ⟨Nat.le_of_ble_eq_true rfl, Nat.le_of_ble_eq_true rfl⟩ (wr := bigW k B A V' (nI nx') (nI sz') sv' z' g') (w' := bigW k B A V' (nI nx') (nI sz') sv' z' g' ++ refW k a zr' f' kp' hi' sl' svr' tx' td') (List.Perm.refl _) (List.Perm.refl _) (lw_rcv5 X hW) rfl hl.1 rfl (Nat.le_of_ble_eq_true rfl) ⟨Nat.le_of_ble_eq_true rfl, Nat.le_of_ble_eq_true rfl⟩ dL_law_358 (fun H locs hW => ?_)
  exact lv_icmp_eq (tgt := 685) X.hx X.hb dL_law_361 (by decide) (fun _ => kk _ _ _ _ _ _ _ _ _ _ _ _ _ _ _ _ hI hW) (fun c => absurd rfl c)
set_option maxHeartbeats 4000000 in
set_option maxRecDepth 100000 in
theorem case_row (X : KX p s m #[Value.ref b] meth c code 4 lw_tbl RL D k P) (hX : va_X b L xs s s.heap) (hbl : b < s.heap.size) (hbP : ¬ P b) (hL : L ≤ 2048) (hl : lv_has ls 4 [(3, .int (nI i)), (2, .ref (a 0)), (1, .ref (B 0)), (0, .ref b)]) (hi4 : i + 4 ≤ L) (h : INV V nx sz sv z g zr f hi sl svr tx td) (hW : KW D P s (bigW k B A V (nI nx) (nI sz) sv z g ++ refW k a zr f kp hi sl svr tx td) H locs) (kk : NXT p l e s m below meth c b D k P B A a Q ls) : W p l e room_1 s m #[Value.ref b] below meth c H locs 600000 7302250 Q (F0 m 366 ls []) := by
  obtain ⟨r, V', nx', sz', sv', z', g', zr', f', kp', hi', sl', svr', tx', td', hC, hR, hI⟩ := L_row (l := l) (D := D) (k := k) (B := B) (A := A) (a := a) (kp := kp) (xs (i + 1)) h
  refine lv_aload_n X.hx X.hb dL_law_366 rfl (lv_at hl 2 rfl) ?_
  refine lw_arg X hX hbl hbP hL hl 1 (by omega) hW dL_law_367 dL_law_368 dL_law_369 (by decide +kernel) dL_law_370 dL_law_371 ?_
  refine kVi (rest := []) (As := [.int (xs (i + 1))]) X hW hC yw_X4_row lk_L_48 ⟨Nat.le_of_ble_eq_true rfl, Nat.le_of_ble_eq_true rfl⟩ (wr := refW k a zr f kp hi sl svr tx td) (w' := bigW k B A V' (nI nx') (nI sz') sv' z' g' ++ refW k a zr f kp hi sl svr tx td) List.perm_append_comm List.perm_append_comm (lw_rcv4 X hW) rfl hl.1 rfl (Nat.le_of_ble_eq_true rfl) ⟨Nat.le_of_ble_eq_true rfl, Nat.le_of_ble_eq_true rfl⟩ dL_law_372 (fun H locs hW => ?_)
  refine lv_aload_n X.hx X.hb dL_law_375 rfl (lv_at hl 1 rfl) ?_
  refine lw_arg X hX hbl hbP hL hl 1 (by omega) hW dL_law_376 dL_law_377 dL_law_378 (by decide +kernel) dL_law_379 dL_law_380 ?_
  refine kVi (rest := [.int r]) (As := [.int (xs (i + 1))]) X hW hR yw_X5_row lk_L_51 ⟨Nat.le_of_ble_eq_true rfl, Nat.le_of_ble_eq_true rfl⟩ (wr := bigW k B A V' (nI nx') (nI sz') sv' z' g') (w' := bigW k B A V' (nI nx') (nI sz') sv' z' g' ++ refW k a zr' f' kp' hi' sl' svr' tx' td') (List.Perm.refl _) (List.Perm.refl _) (lw_rcv5 X hW) rfl hl.1 rfl (Nat.le_of_ble_eq_true rfl) ⟨Nat.le_of_ble_eq_true rfl, Nat.le_of_ble_eq_true rfl⟩ dL_law_381 (fun H locs hW => ?_)
  exact lv_icmp_eq (tgt := 685) X.hx X.hb dL_law_384 (by decide) (fun _ => kk _ _ _ _ _ _ _ _ _ _ _ _ _ _ _ _ hI hW) (fun c => absurd rfl c)
set_option maxHeartbeats 4000000 in
set_option maxRecDepth 100000 in
theorem case_count (X : KX p s m #[Value.ref b] meth c code 4 lw_tbl RL D k P) (hX : va_X b L xs s s.heap) (hbl : b < s.heap.size) (hbP : ¬ P b) (hL : L ≤ 2048) (hl : lv_has ls 4 [(3, .int (nI i)), (2, .ref (a 0)), (1, .ref (B 0)), (0, .ref b)]) (hi4 : i + 4 ≤ L) (h : INV V nx sz sv z g zr f hi sl svr tx td) (hW : KW D P s (bigW k B A V (nI nx) (nI sz) sv z g ++ refW k a zr f kp hi sl svr tx td) H locs) (kk : NXT p l e s m below meth c b D k P B A a Q ls) : W p l e room_1 s m #[Value.ref b] below meth c H locs 600000 7302250 Q (F0 m 389 ls []) := by
  obtain ⟨r, V', nx', sz', sv', z', g', zr', f', kp', hi', sl', svr', tx', td', hC, hR, hI⟩ := L_count (l := l) (D := D) (k := k) (B := B) (A := A) (a := a) (kp := kp) (xs (i + 1)) h
  refine lv_aload_n X.hx X.hb dL_law_389 rfl (lv_at hl 2 rfl) ?_
  refine lw_arg X hX hbl hbP hL hl 1 (by omega) hW dL_law_390 dL_law_391 dL_law_392 (by decide +kernel) dL_law_393 dL_law_394 ?_
  refine kVi (rest := []) (As := [.int (xs (i + 1))]) X hW hC yw_X4_count lk_L_52 ⟨Nat.le_of_ble_eq_true rfl, Nat.le_of_ble_eq_true rfl⟩ (wr := refW k a zr f kp hi sl svr tx td) (w' := bigW k B A V' (nI nx') (nI sz') sv' z' g' ++ refW k a zr f kp hi sl svr tx td) List.perm_append_comm List.perm_append_comm (lw_rcv4 X hW) rfl hl.1 rfl (Nat.le_of_ble_eq_true rfl) ⟨Nat.le_of_ble_eq_true rfl, Nat.le_of_ble_eq_true rfl⟩ dL_law_395 (fun H locs hW => ?_)
  refine lv_aload_n X.hx X.hb dL_law_398 rfl (lv_at hl 1 rfl) ?_
  refine lw_arg X hX hbl hbP hL hl 1 (by omega) hW dL_law_399 dL_law_400 dL_law_401 (by decide +kernel) dL_law_402 dL_law_403 ?_
  refine kVi (rest := [.int r]) (As := [.int (xs (i + 1))]) X hW hR yw_X5_count lk_L_55 ⟨Nat.le_of_ble_eq_true rfl, Nat.le_of_ble_eq_true rfl⟩ (wr := bigW k B A V' (nI nx') (nI sz') sv' z' g') (w' := bigW k B A V' (nI nx') (nI sz') sv' z' g' ++ refW k a zr' f' kp' hi' sl' svr' tx' td') (List.Perm.refl _) (List.Perm.refl _) (lw_rcv5 X hW) rfl hl.1 rfl (Nat.le_of_ble_eq_true rfl) ⟨Nat.le_of_ble_eq_true rfl, Nat.le_of_ble_eq_true rfl⟩ dL_law_404 (fun H locs hW => ?_)
  exact lv_icmp_eq (tgt := 685) X.hx X.hb dL_law_407 (by decide) (fun _ => kk _ _ _ _ _ _ _ _ _ _ _ _ _ _ _ _ hI hW) (fun c => absurd rfl c)
set_option maxHeartbeats 4000000 in
set_option maxRecDepth 100000 in
theorem case_why (X : KX p s m #[Value.ref b] meth c code 4 lw_tbl RL D k P) (hX : va_X b L xs s s.heap) (hbl : b < s.heap.size) (hbP : ¬ P b) (hL : L ≤ 2048) (hl : lv_has ls 4 [(3, .int (nI i)), (2, .ref (a 0)), (1, .ref (B 0)), (0, .ref b)]) (hi4 : i + 4 ≤ L) (h : INV V nx sz sv z g zr f hi sl svr tx td) (hW : KW D P s (bigW k B A V (nI nx) (nI sz) sv z g ++ refW k a zr f kp hi sl svr tx td) H locs) (kk : NXT p l e s m below meth c b D k P B A a Q ls) : W p l e room_1 s m #[Value.ref b] below meth c H locs 600000 7302250 Q (F0 m 412 ls []) := by
  obtain ⟨r, V', nx', sz', sv', z', g', zr', f', kp', hi', sl', svr', tx', td', hC, hR, hI⟩ := L_why (l := l) (D := D) (k := k) (B := B) (A := A) (a := a) (kp := kp) (xs (i + 1)) h
  refine lv_aload_n X.hx X.hb dL_law_412 rfl (lv_at hl 2 rfl) ?_
  refine lw_arg X hX hbl hbP hL hl 1 (by omega) hW dL_law_413 dL_law_414 dL_law_415 (by decide +kernel) dL_law_416 dL_law_417 ?_
  refine kVi (rest := []) (As := [.int (xs (i + 1))]) X hW hC yw_X4_why lk_L_56 ⟨Nat.le_of_ble_eq_true rfl, Nat.le_of_ble_eq_true rfl⟩ (wr := refW k a zr f kp hi sl svr tx td) (w' := bigW k B A V' (nI nx') (nI sz') sv' z' g' ++ refW k a zr f kp hi sl svr tx td) List.perm_append_comm List.perm_append_comm (lw_rcv4 X hW) rfl hl.1 rfl (Nat.le_of_ble_eq_true rfl) ⟨Nat.le_of_ble_eq_true rfl, Nat.le_of_ble_eq_true rfl⟩ dL_law_418 (fun H locs hW => ?_)
  refine lv_aload_n X.hx X.hb dL_law_421 rfl (lv_at hl 1 rfl) ?_
  refine lw_arg X hX hbl hbP hL hl 1 (by omega) hW dL_law_422 dL_law_423 dL_law_424 (by decide +kernel) dL_law_425 dL_law_426 ?_
  refine kVi (rest := [.int r]) (As := [.int (xs (i + 1))]) X hW hR yw_X5_why lk_L_59 ⟨Nat.le_of_ble_eq_true rfl, Nat.le_of_ble_eq_true rfl⟩ (wr := bigW k B A V' (nI nx') (nI sz') sv' z' g') (w' := bigW k B A V' (nI nx') (nI sz') sv' z' g' ++ refW k a zr' f' kp' hi' sl' svr' tx' td') (List.Perm.refl _) (List.Perm.refl _) (lw_rcv5 X hW) rfl hl.1 rfl (Nat.le_of_ble_eq_true rfl) ⟨Nat.le_of_ble_eq_true rfl, Nat.le_of_ble_eq_true rfl⟩ dL_law_427 (fun H locs hW => ?_)
  exact lv_icmp_eq (tgt := 685) X.hx X.hb dL_law_430 (by decide) (fun _ => kk _ _ _ _ _ _ _ _ _ _ _ _ _ _ _ _ hI hW) (fun c => absurd rfl c)
set_option maxHeartbeats 4000000 in
set_option maxRecDepth 100000 in
theorem case_takenIn (X : KX p s m #[Value.ref b] meth c code 4 lw_tbl RL D k P) (hX : va_X b L xs s s.heap) (hbl : b < s.heap.size) (hbP : ¬ P b) (hL : L ≤ 2048) (hl : lv_has ls 4 [(3, .int (nI i)), (2, .ref (a 0)), (1, .ref (B 0)), (0, .ref b)]) (hi4 : i + 4 ≤ L) (h : INV V nx sz sv z g zr f hi sl svr tx td) (hW : KW D P s (bigW k B A V (nI nx) (nI sz) sv z g ++ refW k a zr f kp hi sl svr tx td) H locs) (kk : NXT p l e s m below meth c b D k P B A a Q ls) : W p l e room_1 s m #[Value.ref b] below meth c H locs 600000 7302250 Q (F0 m 435 ls []) := by
  obtain ⟨r, V', nx', sz', sv', z', g', zr', f', kp', hi', sl', svr', tx', td', hC, hR, hI⟩ := L_takenIn (l := l) (D := D) (k := k) (B := B) (A := A) (a := a) (kp := kp) (xs (i + 1)) h
  refine lv_aload_n X.hx X.hb dL_law_435 rfl (lv_at hl 2 rfl) ?_
  refine lw_arg X hX hbl hbP hL hl 1 (by omega) hW dL_law_436 dL_law_437 dL_law_438 (by decide +kernel) dL_law_439 dL_law_440 ?_
  refine kVi (rest := []) (As := [.int (xs (i + 1))]) X hW hC yw_X4_takenIn lk_L_60 ⟨Nat.le_of_ble_eq_true rfl, Nat.le_of_ble_eq_true rfl⟩ (wr := refW k a zr f kp hi sl svr tx td) (w' := bigW k B A V' (nI nx') (nI sz') sv' z' g' ++ refW k a zr f kp hi sl svr tx td) List.perm_append_comm List.perm_append_comm (lw_rcv4 X hW) rfl hl.1 rfl (Nat.le_of_ble_eq_true rfl) ⟨Nat.le_of_ble_eq_true rfl, Nat.le_of_ble_eq_true rfl⟩ dL_law_441 (fun H locs hW => ?_)
  refine lv_aload_n X.hx X.hb dL_law_444 rfl (lv_at hl 1 rfl) ?_
  refine lw_arg X hX hbl hbP hL hl 1 (by omega) hW dL_law_445 dL_law_446 dL_law_447 (by decide +kernel) dL_law_448 dL_law_449 ?_
  refine kVi (rest := [.int r]) (As := [.int (xs (i + 1))]) X hW hR yw_X5_takenIn lk_L_63 ⟨Nat.le_of_ble_eq_true rfl, Nat.le_of_ble_eq_true rfl⟩ (wr := bigW k B A V' (nI nx') (nI sz') sv' z' g') (w' := bigW k B A V' (nI nx') (nI sz') sv' z' g' ++ refW k a zr' f' kp' hi' sl' svr' tx' td') (List.Perm.refl _) (List.Perm.refl _) (lw_rcv5 X hW) rfl hl.1 rfl (Nat.le_of_ble_eq_true rfl) ⟨Nat.le_of_ble_eq_true rfl, Nat.le_of_ble_eq_true rfl⟩ dL_law_450 (fun H locs hW => ?_)
  exact lv_icmp_eq (tgt := 685) X.hx X.hb dL_law_453 (by decide) (fun _ => kk _ _ _ _ _ _ _ _ _ _ _ _ _ _ _ _ hI hW) (fun c => absurd rfl c)
set_option maxHeartbeats 4000000 in
set_option maxRecDepth 100000 in
theorem case_would (X : KX p s m #[Value.ref b] meth c code 4 lw_tbl RL D k P) (hX : va_X b L xs s s.heap) (hbl : b < s.heap.size) (hbP : ¬ P b) (hL : L ≤ 2048) (hl : lv_has ls 4 [(3, .int (nI i)), (2, .ref (a 0)), (1, .ref (B 0)), (0, .ref b)]) (hi4 : i + 4 ≤ L) (h : INV V nx sz sv z g zr f hi sl svr tx td) (hW : KW D P s (bigW k B A V (nI nx) (nI sz) sv z g ++ refW k a zr f kp hi sl svr tx td) H locs) (kk : NXT p l e s m below meth c b D k P B A a Q ls) : W p l e room_1 s m #[Value.ref b] below meth c H locs 600000 7302250 Q (F0 m 458 ls []) := by
  obtain ⟨r, V', nx', sz', sv', z', g', zr', f', kp', hi', sl', svr', tx', td', hC, hR, hI⟩ := L_would (l := l) (D := D) (k := k) (B := B) (A := A) (a := a) (kp := kp) (xs (i + 1)) (xs (i + 2)) h
  refine lv_aload_n X.hx X.hb dL_law_458 rfl (lv_at hl 2 rfl) ?_
  refine lw_arg X hX hbl hbP hL hl 1 (by omega) hW dL_law_459 dL_law_460 dL_law_461 (by decide +kernel) dL_law_462 dL_law_463 ?_
  refine lw_arg X hX hbl hbP hL hl 2 (by omega) hW dL_law_464 dL_law_465 dL_law_466 (by decide +kernel) dL_law_467 dL_law_468 ?_
  refine kVi (rest := []) (As := [.int (xs (i + 1)), .int (xs (i + 2))]) X hW hC yw_X4_would lk_L_64 ⟨Nat.le_of_ble_eq_true rfl, Nat.le_of_ble_eq_true rfl⟩ (wr := refW k a zr f kp hi sl svr tx td) (w' := bigW k B A V' (nI nx') (nI sz') sv' z' g' ++ refW k a zr f kp hi sl svr tx td) List.perm_append_comm List.perm_append_comm (lw_rcv4 X hW) rfl hl.1 rfl (Nat.le_of_ble_eq_true rfl) ⟨Nat.le_of_ble_eq_true rfl, Nat.le_of_ble_eq_true rfl⟩ dL_law_469 (fun H locs hW => ?_)
  refine lv_aload_n X.hx X.hb dL_law_472 rfl (lv_at hl 1 rfl) ?_
  refine lw_arg X hX hbl hbP hL hl 1 (by omega) hW dL_law_473 dL_law_474 dL_law_475 (by decide +kernel) dL_law_476 dL_law_477 ?_
  refine lw_arg X hX hbl hbP hL hl 2 (by omega) hW dL_law_478 dL_law_479 dL_law_480 (by decide +kernel) dL_law_481 dL_law_482 ?_
  refine kVi (rest := [.int r]) (As := [.int (xs (i + 1)), .int (xs (i + 2))]) X hW hR yw_X5_would lk_L_67 ⟨Nat.le_of_ble_eq_true rfl, Nat.le_of_ble_eq_true rfl⟩ (wr := bigW k B A V' (nI nx') (nI sz') sv' z' g') (w' := bigW k B A V' (nI nx') (nI sz') sv' z' g' ++ refW k a zr' f' kp' hi' sl' svr' tx' td') (List.Perm.refl _) (List.Perm.refl _) (lw_rcv5 X hW) rfl hl.1 rfl (Nat.le_of_ble_eq_true rfl) ⟨Nat.le_of_ble_eq_true rfl, Nat.le_of_ble_eq_true rfl⟩ dL_law_483 (fun H locs hW => ?_)
  exact lv_icmp_eq (tgt := 685) X.hx X.hb dL_law_486 (by decide) (fun _ => kk _ _ _ _ _ _ _ _ _ _ _ _ _ _ _ _ hI hW) (fun c => absurd rfl c)
set_option maxHeartbeats 4000000 in
set_option maxRecDepth 100000 in
theorem case_bestCount (X : KX p s m #[Value.ref b] meth c code 4 lw_tbl RL D k P) (hX : va_X b L xs s s.heap) (hbl : b < s.heap.size) (hbP : ¬ P b) (hL : L ≤ 2048) (hl : lv_has ls 4 [(3, .int (nI i)), (2, .ref (a 0)), (1, .ref (B 0)), (0, .ref b)]) (hi4 : i + 4 ≤ L) (h : INV V nx sz sv z g zr f hi sl svr tx td) (hW : KW D P s (bigW k B A V (nI nx) (nI sz) sv z g ++ refW k a zr f kp hi sl svr tx td) H locs) (kk : NXT p l e s m below meth c b D k P B A a Q ls) : W p l e room_1 s m #[Value.ref b] below meth c H locs 600000 7302250 Q (F0 m 491 ls []) := by
  obtain ⟨r, V', nx', sz', sv', z', g', zr', f', kp', hi', sl', svr', tx', td', hC, hR, hI⟩ := L_bestCount (l := l) (D := D) (k := k) (B := B) (A := A) (a := a) (kp := kp) (xs (i + 1)) (xs (i + 2)) (xs (i + 3)) h
  refine lv_aload_n X.hx X.hb dL_law_491 rfl (lv_at hl 2 rfl) ?_
  refine lw_arg X hX hbl hbP hL hl 1 (by omega) hW dL_law_492 dL_law_493 dL_law_494 (by decide +kernel) dL_law_495 dL_law_496 ?_
  refine lw_arg X hX hbl hbP hL hl 2 (by omega) hW dL_law_497 dL_law_498 dL_law_499 (by decide +kernel) dL_law_500 dL_law_501 ?_
  refine lw_arg X hX hbl hbP hL hl 3 (by omega) hW dL_law_502 dL_law_503 dL_law_504 (by decide +kernel) dL_law_505 dL_law_506 ?_
  refine kVi (rest := []) (As := [.int (xs (i + 1)), .int (xs (i + 2)), .int (xs (i + 3))]) X hW hC yw_X4_bestCount lk_L_68 ⟨Nat.le_of_ble_eq_true rfl, Nat.le_of_ble_eq_true rfl⟩ (wr := refW k a zr f kp hi sl svr tx td) (w' := bigW k B A V' (nI nx') (nI sz') sv' z' g' ++ refW k a zr f kp hi sl svr tx td) List.perm_append_comm List.perm_append_comm (lw_rcv4 X hW) rfl hl.1 rfl (Nat.le_of_ble_eq_true rfl) ⟨Nat.le_of_ble_eq_true rfl, Nat.le_of_ble_eq_true rfl⟩ dL_law_507 (fun H locs hW => ?_)
  refine lv_aload_n X.hx X.hb dL_law_510 rfl (lv_at hl 1 rfl) ?_
  refine lw_arg X hX hbl hbP hL hl 1 (by omega) hW dL_law_511 dL_law_512 dL_law_513 (by decide +kernel) dL_law_514 dL_law_515 ?_
  refine lw_arg X hX hbl hbP hL hl 2 (by omega) hW dL_law_516 dL_law_517 dL_law_518 (by decide +kernel) dL_law_519 dL_law_520 ?_
  refine lw_arg X hX hbl hbP hL hl 3 (by omega) hW dL_law_521 dL_law_522 dL_law_523 (by decide +kernel) dL_law_524 dL_law_525 ?_
  refine kVi (rest := [.int r]) (As := [.int (xs (i + 1)), .int (xs (i + 2)), .int (xs (i + 3))]) X hW hR yw_X5_bestCount lk_L_71 ⟨Nat.le_of_ble_eq_true rfl, Nat.le_of_ble_eq_true rfl⟩ (wr := bigW k B A V' (nI nx') (nI sz') sv' z' g') (w' := bigW k B A V' (nI nx') (nI sz') sv' z' g' ++ refW k a zr' f' kp' hi' sl' svr' tx' td') (List.Perm.refl _) (List.Perm.refl _) (lw_rcv5 X hW) rfl hl.1 rfl (Nat.le_of_ble_eq_true rfl) ⟨Nat.le_of_ble_eq_true rfl, Nat.le_of_ble_eq_true rfl⟩ dL_law_526 (fun H locs hW => ?_)
  exact lv_icmp_eq (tgt := 685) X.hx X.hb dL_law_529 (by decide) (fun _ => kk _ _ _ _ _ _ _ _ _ _ _ _ _ _ _ _ hI hW) (fun c => absurd rfl c)
set_option maxHeartbeats 4000000 in
set_option maxRecDepth 100000 in
theorem case_put (X : KX p s m #[Value.ref b] meth c code 4 lw_tbl RL D k P) (hX : va_X b L xs s s.heap) (hbl : b < s.heap.size) (hbP : ¬ P b) (hL : L ≤ 2048) (hl : lv_has ls 4 [(3, .int (nI i)), (2, .ref (a 0)), (1, .ref (B 0)), (0, .ref b)]) (hi4 : i + 4 ≤ L) (h : INV V nx sz sv z g zr f hi sl svr tx td) (hW : KW D P s (bigW k B A V (nI nx) (nI sz) sv z g ++ refW k a zr f kp hi sl svr tx td) H locs) (kk : NXT p l e s m below meth c b D k P B A a Q ls) : W p l e room_1 s m #[Value.ref b] below meth c H locs 600000 7302250 Q (F0 m 534 ls []) := by
  obtain ⟨r, V', nx', sz', sv', z', g', zr', f', kp', hi', sl', svr', tx', td', hC, hR, hI⟩ := L_put (l := l) (D := D) (k := k) (B := B) (A := A) (a := a) (kp := kp) ((xs (i + 1)).toInt64 <<< ((nI 32).toInt64 &&& 63) ||| (xs (i + 2)).toInt64 &&& 4294967295) h
  refine lv_aload_n X.hx X.hb dL_law_534 rfl (lv_at hl 2 rfl) ?_
  refine lw_arg X hX hbl hbP hL hl 1 (by omega) hW dL_law_535 dL_law_536 dL_law_537 (by decide +kernel) dL_law_538 dL_law_539 ?_
  refine lv_i2l X.hx X.hb dL_law_540 rfl ?_
  refine lv_bipush (v := nI 32) X.hx X.hb dL_law_541 (by decide +kernel) ?_
  refine lv_lshl X.hx X.hb dL_law_543 rfl ?_
  refine lw_arg X hX hbl hbP hL hl 2 (by omega) hW dL_law_544 dL_law_545 dL_law_546 (by decide +kernel) dL_law_547 dL_law_548 ?_
  refine lv_i2l X.hx X.hb dL_law_549 rfl ?_
  refine lv_ldc2 (v := 4294967295) X.hx X.hb X.hown (X.hts _ kl_L_72) dL_law_550 ?_
  refine lv_land X.hx X.hb dL_law_553 ?_
  refine lv_lor X.hx X.hb dL_law_554 ?_
  refine kVi (rest := []) (As := [.long ((xs (i + 1)).toInt64 <<< ((nI 32).toInt64 &&& 63) ||| (xs (i + 2)).toInt64 &&& 4294967295)]) X hW hC yw_X4_put lk_L_74 ⟨Nat.le_of_ble_eq_true rfl, Nat.le_of_ble_eq_true rfl⟩ (wr := refW k a zr f kp hi sl svr tx td) (w' := bigW k B A V' (nI nx') (nI sz') sv' z' g' ++ refW k a zr f kp hi sl svr tx td) List.perm_append_comm List.perm_append_comm (lw_rcv4 X hW) rfl hl.1 rfl (Nat.le_of_ble_eq_true rfl) ⟨Nat.le_of_ble_eq_true rfl, Nat.le_of_ble_eq_true rfl⟩ dL_law_555 (fun H locs hW => ?_)
  refine lv_aload_n X.hx X.hb dL_law_558 rfl (lv_at hl 1 rfl) ?_
  refine lw_arg X hX hbl hbP hL hl 1 (by omega) hW dL_law_559 dL_law_560 dL_law_561 (by decide +kernel) dL_law_562 dL_law_563 ?_
  refine lv_i2l X.hx X.hb dL_law_564 rfl ?_
  refine lv_bipush (v := nI 32) X.hx X.hb dL_law_565 (by decide +kernel) ?_
  refine lv_lshl X.hx X.hb dL_law_567 rfl ?_
  refine lw_arg X hX hbl hbP hL hl 2 (by omega) hW dL_law_568 dL_law_569 dL_law_570 (by decide +kernel) dL_law_571 dL_law_572 ?_
  refine lv_i2l X.hx X.hb dL_law_573 rfl ?_
  refine lv_ldc2 (v := 4294967295) X.hx X.hb X.hown (X.hts _ kl_L_72) dL_law_574 ?_
  refine lv_land X.hx X.hb dL_law_577 ?_
  refine lv_lor X.hx X.hb dL_law_578 ?_
  refine kVi (rest := [.int r]) (As := [.long ((xs (i + 1)).toInt64 <<< ((nI 32).toInt64 &&& 63) ||| (xs (i + 2)).toInt64 &&& 4294967295)]) X hW hR yw_X5_put lk_L_78 ⟨Nat.le_of_ble_eq_true rfl, Nat.le_of_ble_eq_true rfl⟩ (wr := bigW k B A V' (nI nx') (nI sz') sv' z' g') (w' := bigW k B A V' (nI nx') (nI sz') sv' z' g' ++ refW k a zr' f' kp' hi' sl' svr' tx' td') (List.Perm.refl _) (List.Perm.refl _) (lw_rcv5 X hW) rfl hl.1 rfl (Nat.le_of_ble_eq_true rfl) ⟨Nat.le_of_ble_eq_true rfl, Nat.le_of_ble_eq_true rfl⟩ dL_law_579 (fun H locs hW => ?_)
  exact lv_icmp_eq (tgt := 685) X.hx X.hb dL_law_582 (by decide) (fun _ => kk _ _ _ _ _ _ _ _ _ _ _ _ _ _ _ _ hI hW) (fun c => absurd rfl c)
set_option maxHeartbeats 4000000 in
set_option maxRecDepth 100000 in
theorem case_wipe (X : KX p s m #[Value.ref b] meth c code 4 lw_tbl RL D k P) (hX : va_X b L xs s s.heap) (hbl : b < s.heap.size) (hbP : ¬ P b) (hL : L ≤ 2048) (hl : lv_has ls 4 [(3, .int (nI i)), (2, .ref (a 0)), (1, .ref (B 0)), (0, .ref b)]) (hi4 : i + 4 ≤ L) (h : INV V nx sz sv z g zr f hi sl svr tx td) (hW : KW D P s (bigW k B A V (nI nx) (nI sz) sv z g ++ refW k a zr f kp hi sl svr tx td) H locs) (kk : NXT p l e s m below meth c b D k P B A a Q ls) : W p l e room_1 s m #[Value.ref b] below meth c H locs 600000 7302250 Q (F0 m 587 ls []) := by
  obtain ⟨r, V', nx', sz', sv', z', g', zr', f', kp', hi', sl', svr', tx', td', hC, hR, hI⟩ := L_wipe (l := l) (D := D) (k := k) (B := B) (A := A) (a := a) (kp := kp)  h
  refine lv_aload_n X.hx X.hb dL_law_587 rfl (lv_at hl 2 rfl) ?_
  refine kVi (rest := []) (As := []) X hW hC yw_X4_wipe lk_L_79 ⟨Nat.le_of_ble_eq_true rfl, Nat.le_of_ble_eq_true rfl⟩ (wr := refW k a zr f kp hi sl svr tx td) (w' := bigW k B A V' (nI nx') (nI sz') sv' z' g' ++ refW k a zr f kp hi sl svr tx td) List.perm_append_comm List.perm_append_comm (lw_rcv4 X hW) rfl hl.1 rfl (Nat.le_of_ble_eq_true rfl) ⟨Nat.le_of_ble_eq_true rfl, Nat.le_of_ble_eq_true rfl⟩ dL_law_588 (fun H locs hW => ?_)
  refine lv_aload_n X.hx X.hb dL_law_591 rfl (lv_at hl 1 rfl) ?_
  refine kVi (rest := [.int r]) (As := []) X hW hR yw_X5_wipe lk_L_83 ⟨Nat.le_of_ble_eq_true rfl, Nat.le_of_ble_eq_true rfl⟩ (wr := bigW k B A V' (nI nx') (nI sz') sv' z' g') (w' := bigW k B A V' (nI nx') (nI sz') sv' z' g' ++ refW k a zr' f' kp' hi' sl' svr' tx' td') (List.Perm.refl _) (List.Perm.refl _) (lw_rcv5 X hW) rfl hl.1 rfl (Nat.le_of_ble_eq_true rfl) ⟨Nat.le_of_ble_eq_true rfl, Nat.le_of_ble_eq_true rfl⟩ dL_law_592 (fun H locs hW => ?_)
  exact lv_icmp_eq (tgt := 685) X.hx X.hb dL_law_595 (by decide) (fun _ => kk _ _ _ _ _ _ _ _ _ _ _ _ _ _ _ _ hI hW) (fun c => absurd rfl c)
set_option maxHeartbeats 4000000 in
set_option maxRecDepth 100000 in
theorem case_fault (X : KX p s m #[Value.ref b] meth c code 4 lw_tbl RL D k P) (hX : va_X b L xs s s.heap) (hbl : b < s.heap.size) (hbP : ¬ P b) (hL : L ≤ 2048) (hl : lv_has ls 4 [(3, .int (nI i)), (2, .ref (a 0)), (1, .ref (B 0)), (0, .ref b)]) (hi4 : i + 4 ≤ L) (h : INV V nx sz sv z g zr f hi sl svr tx td) (hW : KW D P s (bigW k B A V (nI nx) (nI sz) sv z g ++ refW k a zr f kp hi sl svr tx td) H locs) (kk : NXT p l e s m below meth c b D k P B A a Q ls) : W p l e room_1 s m #[Value.ref b] below meth c H locs 600000 7302250 Q (F0 m 600 ls []) := by
  obtain ⟨r, V', nx', sz', sv', z', g', zr', f', kp', hi', sl', svr', tx', td', hC, hR, hI⟩ := L_fault (l := l) (D := D) (k := k) (B := B) (A := A) (a := a) (kp := kp)  h
  refine lv_aload_n X.hx X.hb dL_law_600 rfl (lv_at hl 2 rfl) ?_
  refine kVi (rest := []) (As := []) X hW hC yw_X4_fault lk_L_84 ⟨Nat.le_of_ble_eq_true rfl, Nat.le_of_ble_eq_true rfl⟩ (wr := refW k a zr f kp hi sl svr tx td) (w' := bigW k B A V' (nI nx') (nI sz') sv' z' g' ++ refW k a zr f kp hi sl svr tx td) List.perm_append_comm List.perm_append_comm (lw_rcv4 X hW) rfl hl.1 rfl (Nat.le_of_ble_eq_true rfl) ⟨Nat.le_of_ble_eq_true rfl, Nat.le_of_ble_eq_true rfl⟩ dL_law_601 (fun H locs hW => ?_)
  refine lv_aload_n X.hx X.hb dL_law_604 rfl (lv_at hl 1 rfl) ?_
  refine kVi (rest := [.int r]) (As := []) X hW hR yw_X5_fault lk_L_87 ⟨Nat.le_of_ble_eq_true rfl, Nat.le_of_ble_eq_true rfl⟩ (wr := bigW k B A V' (nI nx') (nI sz') sv' z' g') (w' := bigW k B A V' (nI nx') (nI sz') sv' z' g' ++ refW k a zr' f' kp' hi' sl' svr' tx' td') (List.Perm.refl _) (List.Perm.refl _) (lw_rcv5 X hW) rfl hl.1 rfl (Nat.le_of_ble_eq_true rfl) ⟨Nat.le_of_ble_eq_true rfl, Nat.le_of_ble_eq_true rfl⟩ dL_law_605 (fun H locs hW => ?_)
  exact lv_icmp_eq (tgt := 685) X.hx X.hb dL_law_608 (by decide) (fun _ => kk _ _ _ _ _ _ _ _ _ _ _ _ _ _ _ _ hI hW) (fun c => absurd rfl c)
set_option maxHeartbeats 4000000 in
set_option maxRecDepth 100000 in
theorem case_carryOut (X : KX p s m #[Value.ref b] meth c code 4 lw_tbl RL D k P) (hX : va_X b L xs s s.heap) (hbl : b < s.heap.size) (hbP : ¬ P b) (hL : L ≤ 2048) (hl : lv_has ls 4 [(3, .int (nI i)), (2, .ref (a 0)), (1, .ref (B 0)), (0, .ref b)]) (hi4 : i + 4 ≤ L) (h : INV V nx sz sv z g zr f hi sl svr tx td) (hW : KW D P s (bigW k B A V (nI nx) (nI sz) sv z g ++ refW k a zr f kp hi sl svr tx td) H locs) (kk : NXT p l e s m below meth c b D k P B A a Q ls) : W p l e room_1 s m #[Value.ref b] below meth c H locs 600000 7302250 Q (F0 m 613 ls []) := by
  obtain ⟨r, V', nx', sz', sv', z', g', zr', f', kp', hi', sl', svr', tx', td', hC, hR, hI⟩ := L_carryOut (l := l) (D := D) (k := k) (B := B) (A := A) (a := a) (kp := kp)  h
  refine lv_aload_n X.hx X.hb dL_law_613 rfl (lv_at hl 2 rfl) ?_
  refine kVi (rest := []) (As := []) X hW hC yw_X4_carryOut lk_L_88 ⟨Nat.le_of_ble_eq_true rfl, Nat.le_of_ble_eq_true rfl⟩ (wr := refW k a zr f kp hi sl svr tx td) (w' := bigW k B A V' (nI nx') (nI sz') sv' z' g' ++ refW k a zr f kp hi sl svr tx td) List.perm_append_comm List.perm_append_comm (lw_rcv4 X hW) rfl hl.1 rfl (Nat.le_of_ble_eq_true rfl) ⟨Nat.le_of_ble_eq_true rfl, Nat.le_of_ble_eq_true rfl⟩ dL_law_614 (fun H locs hW => ?_)
  refine lv_aload_n X.hx X.hb dL_law_617 rfl (lv_at hl 1 rfl) ?_
  refine kVi (rest := [.int r]) (As := []) X hW hR yw_X5_carryOut lk_L_91 ⟨Nat.le_of_ble_eq_true rfl, Nat.le_of_ble_eq_true rfl⟩ (wr := bigW k B A V' (nI nx') (nI sz') sv' z' g') (w' := bigW k B A V' (nI nx') (nI sz') sv' z' g' ++ refW k a zr' f' kp' hi' sl' svr' tx' td') (List.Perm.refl _) (List.Perm.refl _) (lw_rcv5 X hW) rfl hl.1 rfl (Nat.le_of_ble_eq_true rfl) ⟨Nat.le_of_ble_eq_true rfl, Nat.le_of_ble_eq_true rfl⟩ dL_law_618 (fun H locs hW => ?_)
  exact lv_icmp_eq (tgt := 685) X.hx X.hb dL_law_621 (by decide) (fun _ => kk _ _ _ _ _ _ _ _ _ _ _ _ _ _ _ _ hI hW) (fun c => absurd rfl c)
set_option maxHeartbeats 4000000 in
set_option maxRecDepth 100000 in
theorem case_undo (X : KX p s m #[Value.ref b] meth c code 4 lw_tbl RL D k P) (hX : va_X b L xs s s.heap) (hbl : b < s.heap.size) (hbP : ¬ P b) (hL : L ≤ 2048) (hl : lv_has ls 4 [(3, .int (nI i)), (2, .ref (a 0)), (1, .ref (B 0)), (0, .ref b)]) (hi4 : i + 4 ≤ L) (h : INV V nx sz sv z g zr f hi sl svr tx td) (hW : KW D P s (bigW k B A V (nI nx) (nI sz) sv z g ++ refW k a zr f kp hi sl svr tx td) H locs) (kk : NXT p l e s m below meth c b D k P B A a Q ls) : W p l e room_1 s m #[Value.ref b] below meth c H locs 600000 7302250 Q (F0 m 626 ls []) := by
  obtain ⟨r, V', nx', sz', sv', z', g', zr', f', kp', hi', sl', svr', tx', td', hC, hR, hI⟩ := L_undo (l := l) (D := D) (k := k) (B := B) (A := A) (a := a) (kp := kp)  h
  refine lv_aload_n X.hx X.hb dL_law_626 rfl (lv_at hl 2 rfl) ?_
  refine kVi (rest := []) (As := []) X hW hC yw_X4_undo lk_L_92 ⟨Nat.le_of_ble_eq_true rfl, Nat.le_of_ble_eq_true rfl⟩ (wr := refW k a zr f kp hi sl svr tx td) (w' := bigW k B A V' (nI nx') (nI sz') sv' z' g' ++ refW k a zr f kp hi sl svr tx td) List.perm_append_comm List.perm_append_comm (lw_rcv4 X hW) rfl hl.1 rfl (Nat.le_of_ble_eq_true rfl) ⟨Nat.le_of_ble_eq_true rfl, Nat.le_of_ble_eq_true rfl⟩ dL_law_627 (fun H locs hW => ?_)
  refine lv_aload_n X.hx X.hb dL_law_630 rfl (lv_at hl 1 rfl) ?_
  refine kVi (rest := [.int r]) (As := []) X hW hR yw_X5_undo lk_L_95 ⟨Nat.le_of_ble_eq_true rfl, Nat.le_of_ble_eq_true rfl⟩ (wr := bigW k B A V' (nI nx') (nI sz') sv' z' g') (w' := bigW k B A V' (nI nx') (nI sz') sv' z' g' ++ refW k a zr' f' kp' hi' sl' svr' tx' td') (List.Perm.refl _) (List.Perm.refl _) (lw_rcv5 X hW) rfl hl.1 rfl (Nat.le_of_ble_eq_true rfl) ⟨Nat.le_of_ble_eq_true rfl, Nat.le_of_ble_eq_true rfl⟩ dL_law_631 (fun H locs hW => ?_)
  exact lv_icmp_eq (tgt := 685) X.hx X.hb dL_law_634 (by decide) (fun _ => kk _ _ _ _ _ _ _ _ _ _ _ _ _ _ _ _ hI hW) (fun c => absurd rfl c)
set_option maxHeartbeats 4000000 in
set_option maxRecDepth 100000 in
theorem case_save (X : KX p s m #[Value.ref b] meth c code 4 lw_tbl RL D k P) (hX : va_X b L xs s s.heap) (hbl : b < s.heap.size) (hbP : ¬ P b) (hL : L ≤ 2048) (hl : lv_has ls 4 [(3, .int (nI i)), (2, .ref (a 0)), (1, .ref (B 0)), (0, .ref b)]) (hi4 : i + 4 ≤ L) (h : INV V nx sz sv z g zr f hi sl svr tx td) (hW : KW D P s (bigW k B A V (nI nx) (nI sz) sv z g ++ refW k a zr f kp hi sl svr tx td) H locs) (kk : NXT p l e s m below meth c b D k P B A a Q ls) : W p l e room_1 s m #[Value.ref b] below meth c H locs 600000 7302250 Q (F0 m 639 ls []) := by
  obtain ⟨r, V', nx', sz', sv', z', g', zr', f', kp', hi', sl', svr', tx', td', hC, hR, hI⟩ := L_save (l := l) (D := D) (k := k) (B := B) (A := A) (a := a) (kp := kp) (xs (i + 1)) h
  refine lv_aload_n X.hx X.hb dL_law_639 rfl (lv_at hl 2 rfl) ?_
  refine lw_arg X hX hbl hbP hL hl 1 (by omega) hW dL_law_640 dL_law_641 dL_law_642 (by decide +kernel) dL_law_643 dL_law_644 ?_
  refine kVi (rest := []) (As := [.int (xs (i + 1))]) X hW hC yw_X4_save lk_L_96 ⟨Nat.le_of_ble_eq_true rfl, Nat.le_of_ble_eq_true rfl⟩ (wr := refW k a zr f kp hi sl svr tx td) (w' := bigW k B A V' (nI nx') (nI sz') sv' z' g' ++ refW k a zr f kp hi sl svr tx td) List.perm_append_comm List.perm_append_comm (lw_rcv4 X hW) rfl hl.1 rfl (Nat.le_of_ble_eq_true rfl) ⟨Nat.le_of_ble_eq_true rfl, Nat.le_of_ble_eq_true rfl⟩ dL_law_645 (fun H locs hW => ?_)
  refine lv_aload_n X.hx X.hb dL_law_648 rfl (lv_at hl 1 rfl) ?_
  refine lw_arg X hX hbl hbP hL hl 1 (by omega) hW dL_law_649 dL_law_650 dL_law_651 (by decide +kernel) dL_law_652 dL_law_653 ?_
  refine kVi (rest := [.int r]) (As := [.int (xs (i + 1))]) X hW hR yw_X5_save lk_L_99 ⟨Nat.le_of_ble_eq_true rfl, Nat.le_of_ble_eq_true rfl⟩ (wr := bigW k B A V' (nI nx') (nI sz') sv' z' g') (w' := bigW k B A V' (nI nx') (nI sz') sv' z' g' ++ refW k a zr' f' kp' hi' sl' svr' tx' td') (List.Perm.refl _) (List.Perm.refl _) (lw_rcv5 X hW) rfl hl.1 rfl (Nat.le_of_ble_eq_true rfl) ⟨Nat.le_of_ble_eq_true rfl, Nat.le_of_ble_eq_true rfl⟩ dL_law_654 (fun H locs hW => ?_)
  exact lv_icmp_eq (tgt := 685) X.hx X.hb dL_law_657 (by decide) (fun _ => kk _ _ _ _ _ _ _ _ _ _ _ _ _ _ _ _ hI hW) (fun c => absurd rfl c)
set_option maxHeartbeats 4000000 in
set_option maxRecDepth 100000 in
theorem case_restore (X : KX p s m #[Value.ref b] meth c code 4 lw_tbl RL D k P) (hX : va_X b L xs s s.heap) (hbl : b < s.heap.size) (hbP : ¬ P b) (hL : L ≤ 2048) (hl : lv_has ls 4 [(3, .int (nI i)), (2, .ref (a 0)), (1, .ref (B 0)), (0, .ref b)]) (hi4 : i + 4 ≤ L) (h : INV V nx sz sv z g zr f hi sl svr tx td) (hW : KW D P s (bigW k B A V (nI nx) (nI sz) sv z g ++ refW k a zr f kp hi sl svr tx td) H locs) (kk : NXT p l e s m below meth c b D k P B A a Q ls) : W p l e room_1 s m #[Value.ref b] below meth c H locs 600000 7302250 Q (F0 m 662 ls []) := by
  obtain ⟨r, V', nx', sz', sv', z', g', zr', f', kp', hi', sl', svr', tx', td', hC, hR, hI⟩ := L_restore (l := l) (D := D) (k := k) (B := B) (A := A) (a := a) (kp := kp) (xs (i + 1)) h
  refine lv_aload_n X.hx X.hb dL_law_662 rfl (lv_at hl 2 rfl) ?_
  refine lw_arg X hX hbl hbP hL hl 1 (by omega) hW dL_law_663 dL_law_664 dL_law_665 (by decide +kernel) dL_law_666 dL_law_667 ?_
  refine kVi (rest := []) (As := [.int (xs (i + 1))]) X hW hC yw_X4_restore lk_L_100 ⟨Nat.le_of_ble_eq_true rfl, Nat.le_of_ble_eq_true rfl⟩ (wr := refW k a zr f kp hi sl svr tx td) (w' := bigW k B A V' (nI nx') (nI sz') sv' z' g' ++ refW k a zr f kp hi sl svr tx td) List.perm_append_comm List.perm_append_comm (lw_rcv4 X hW) rfl hl.1 rfl (Nat.le_of_ble_eq_true rfl) ⟨Nat.le_of_ble_eq_true rfl, Nat.le_of_ble_eq_true rfl⟩ dL_law_668 (fun H locs hW => ?_)
  refine lv_aload_n X.hx X.hb dL_law_671 rfl (lv_at hl 1 rfl) ?_
  refine lw_arg X hX hbl hbP hL hl 1 (by omega) hW dL_law_672 dL_law_673 dL_law_674 (by decide +kernel) dL_law_675 dL_law_676 ?_
  refine kVi (rest := [.int r]) (As := [.int (xs (i + 1))]) X hW hR yw_X5_restore lk_L_103 ⟨Nat.le_of_ble_eq_true rfl, Nat.le_of_ble_eq_true rfl⟩ (wr := bigW k B A V' (nI nx') (nI sz') sv' z' g') (w' := bigW k B A V' (nI nx') (nI sz') sv' z' g' ++ refW k a zr' f' kp' hi' sl' svr' tx' td') (List.Perm.refl _) (List.Perm.refl _) (lw_rcv5 X hW) rfl hl.1 rfl (Nat.le_of_ble_eq_true rfl) ⟨Nat.le_of_ble_eq_true rfl, Nat.le_of_ble_eq_true rfl⟩ dL_law_677 (fun H locs hW => ?_)
  exact lv_icmp_eq (tgt := 685) X.hx X.hb dL_law_680 (by decide) (fun _ => kk _ _ _ _ _ _ _ _ _ _ _ _ _ _ _ _ hI hW) (fun c => absurd rfl c)
end
theorem lw_no {L i : Nat} (hL : L ≤ 2048) (hi : i ≤ L) (h : ¬ nI L - nI 4 < nI i) : i + 4 ≤ L := by
  rcases Nat.lt_or_ge L (i + 4) with q | q
  · refine absurd ?_ h
    rw [Int32.lt_iff_toInt_lt, pk_sub_toInt (by omega) (by decide), nI_toInt (by omega)]
    omega
  · exact q
set_option maxHeartbeats 4000000 in
set_option maxRecDepth 100000 in
theorem law_loop {p : Program} {l : Launch} {e : Env} {s : State} {m : MethodId} {below : List Frame} {meth : Method} {c : Code} {D : va_G} {k : Nat → ClassId} {b L : Nat} {xs : Nat → Int32} (hL : L ≤ 2048) (C0 : lw_At p s m meth c b L xs) (X : KX p s m #[Value.ref b] meth c code 4 lw_tbl RL D k (fun q => s.heap.size ≤ q)) (B : Nat → Nat) (A : Nat → Nat → Nat) (a : Nat → Nat) :
    ∀ (n i : Nat), i ≤ L → L + 1 ≤ i + n → ∀ (V : Nat → CS) (nx sz : Nat) (sv z g zr f kp hi sl svr tx td : Nat → Int32), INV V nx sz sv z g zr f hi sl svr tx td → ∀ (H : Heap) (locs : List Loc), KW D (fun q => s.heap.size ≤ q) s (bigW k B A V (nI nx) (nI sz) sv z g ++ refW k a zr f kp hi sl svr tx td) H locs → ∀ (ls : Array Slot), lv_has ls 4 [(3, .int (nI i)), (2, .ref (a 0)), (1, .ref (B 0)), (0, .ref b)] → W p l e room_1 s m #[Value.ref b] below meth c H locs 600000 7302250 (lw_Z below #[Value.ref b] s) (F0 m 18 ls []) := by
  obtain ⟨hx, hb, hr, hml, hown, hts, hX, hbl, hlocks, hgv⟩ := C0
  have hbP : ¬ (fun q : Nat => s.heap.size ≤ q) b := Nat.not_le.mpr hbl
  intro n
  induction n with
  | zero =>
    intro i h1 h2
    exact absurd h2 (by omega)
  | succ n ih =>
    intro i hi1 hin V nx sz sv z g zr f kp hi sl svr tx td h H locs hW ls hl
    refine lv_iload_n hx hb dL_law_18 rfl (lv_at hl 0 rfl) ?_
    refine lv_aload_n hx hb dL_law_19 rfl (lv_at hl 3 rfl) ?_
    refine va_slen hx hb hX hbl hbP hW.2.2 dL_law_20 ?_
    refine lv_iconst (v := nI 4) hx hb dL_law_21 (by decide +kernel) ?_
    refine lv_isub hx hb dL_law_22 ?_
    refine lv_icmp_gt (tgt := 691) hx hb dL_law_23 (by decide) (fun _ => ?_) (fun c1 => ?_)
    · refine lv_iconst (v := 1) hx hb dL_law_691 (by decide) ?_
      refine va_forget (fun q hq => hW.2.2.2.2 q hq) ?_
      exact lw_ret hx hb hr hlocks dL_law_692
    · have hi4 : i + 4 ≤ L := lw_no hL hi1 c1
      have kk : NXT p l e s m below meth c b D k (fun q => s.heap.size ≤ q) B A a (lw_Z below #[Value.ref b] s) ls := by
        intro V nx sz sv z g zr f kp hi sl svr tx td H locs h hW
        refine lv_iinc (v := nI (i + 4)) (lv' := [(3, .int (nI (i + 4))), (2, .ref (a 0)), (1, .ref (B 0)), (0, .ref b)]) hx hb dL_law_685 hl (k := 0) rfl (k_incn i 4) (by decide) rfl (fun ls hl => ?_)
        refine lv_goto (tgt := 18) hx hb dL_law_688 (by decide) ?_
        exact ih (i + 4) hi4 (by omega) V nx sz sv z g zr f kp hi sl svr tx td h H locs hW ls hl
      refine lv_aload_n hx hb dL_law_26 rfl (lv_at hl 3 rfl) ?_
      refine lv_iload_n hx hb dL_law_27 rfl (lv_at hl 0 rfl) ?_
      refine va_sld hx hb hX hbl hbP hW.2.2 (vp_in_nI (by omega) (by omega)) dL_law_28 ?_
      refine lv_bipush (v := nI 31) hx hb dL_law_29 (by decide +kernel) ?_
      refine lv_iand hx hb dL_law_31 ?_
      obtain ⟨j, hj, ej⟩ := pk_andE (xs (nI i).toNatClampNeg) (m := nI 31) 5 (by decide +kernel)
      refine k_top ej ?_
      rcases (by omega : j = 0 ∨ j = 1 ∨ j = 2 ∨ j = 3 ∨ j = 4 ∨ j = 5 ∨ j = 6 ∨ j = 7 ∨ j = 8 ∨ j = 9 ∨ j = 10 ∨ j = 11 ∨ j = 12 ∨ j = 13 ∨ j = 14 ∨ j = 15 ∨ j = 16 ∨ j = 17 ∨ j = 18 ∨ j = 19 ∨ j = 20 ∨ 20 < j) with rfl | rfl | rfl | rfl | rfl | rfl | rfl | rfl | rfl | rfl | rfl | rfl | rfl | rfl | rfl | rfl | rfl | rfl | rfl | rfl | rfl | h20
      · refine lv_tableIn (off := 100) (tgt := 132) hx hb dL_law_32 (by decide +kernel) (by decide +kernel) (by decide +kernel) (by decide) ?_
        exact case_set X hX hbl hbP hL hl hi4 h hW kk
      · refine lv_tableIn (off := 133) (tgt := 165) hx hb dL_law_32 (by decide +kernel) (by decide +kernel) (by decide +kernel) (by decide) ?_
        exact case_bounds X hX hbl hbP hL hl hi4 h hW kk
      · refine lv_tableIn (off := 176) (tgt := 208) hx hb dL_law_32 (by decide +kernel) (by decide +kernel) (by decide +kernel) (by decide) ?_
        exact case_come X hX hbl hbP hL hl hi4 h hW kk
      · refine lv_tableIn (off := 199) (tgt := 231) hx hb dL_law_32 (by decide +kernel) (by decide +kernel) (by decide +kernel) (by decide) ?_
        exact case_mask X hX hbl hbP hL hl hi4 h hW kk
      · refine lv_tableIn (off := 222) (tgt := 254) hx hb dL_law_32 (by decide +kernel) (by decide +kernel) (by decide +kernel) (by decide) ?_
        exact case_call X hX hbl hbP hL hl hi4 h hW kk
      · refine lv_tableIn (off := 245) (tgt := 277) hx hb dL_law_32 (by decide +kernel) (by decide +kernel) (by decide +kernel) (by decide) ?_
        exact case_pass X hX hbl hbP hL hl hi4 h hW kk
      · refine lv_tableIn (off := 268) (tgt := 300) hx hb dL_law_32 (by decide +kernel) (by decide +kernel) (by decide +kernel) (by decide) ?_
        exact case_of X hX hbl hbP hL hl hi4 h hW kk
      · refine lv_tableIn (off := 301) (tgt := 333) hx hb dL_law_32 (by decide +kernel) (by decide +kernel) (by decide +kernel) (by decide) ?_
        exact case_frame X hX hbl hbP hL hl hi4 h hW kk
      · refine lv_tableIn (off := 334) (tgt := 366) hx hb dL_law_32 (by decide +kernel) (by decide +kernel) (by decide +kernel) (by decide) ?_
        exact case_row X hX hbl hbP hL hl hi4 h hW kk
      · refine lv_tableIn (off := 357) (tgt := 389) hx hb dL_law_32 (by decide +kernel) (by decide +kernel) (by decide +kernel) (by decide) ?_
        exact case_count X hX hbl hbP hL hl hi4 h hW kk
      · refine lv_tableIn (off := 380) (tgt := 412) hx hb dL_law_32 (by decide +kernel) (by decide +kernel) (by decide +kernel) (by decide) ?_
        exact case_why X hX hbl hbP hL hl hi4 h hW kk
      · refine lv_tableIn (off := 403) (tgt := 435) hx hb dL_law_32 (by decide +kernel) (by decide +kernel) (by decide +kernel) (by decide) ?_
        exact case_takenIn X hX hbl hbP hL hl hi4 h hW kk
      · refine lv_tableIn (off := 426) (tgt := 458) hx hb dL_law_32 (by decide +kernel) (by decide +kernel) (by decide +kernel) (by decide) ?_
        exact case_would X hX hbl hbP hL hl hi4 h hW kk
      · refine lv_tableIn (off := 459) (tgt := 491) hx hb dL_law_32 (by decide +kernel) (by decide +kernel) (by decide +kernel) (by decide) ?_
        exact case_bestCount X hX hbl hbP hL hl hi4 h hW kk
      · refine lv_tableIn (off := 502) (tgt := 534) hx hb dL_law_32 (by decide +kernel) (by decide +kernel) (by decide +kernel) (by decide) ?_
        exact case_put X hX hbl hbP hL hl hi4 h hW kk
      · refine lv_tableIn (off := 555) (tgt := 587) hx hb dL_law_32 (by decide +kernel) (by decide +kernel) (by decide +kernel) (by decide) ?_
        exact case_wipe X hX hbl hbP hL hl hi4 h hW kk
      · refine lv_tableIn (off := 568) (tgt := 600) hx hb dL_law_32 (by decide +kernel) (by decide +kernel) (by decide +kernel) (by decide) ?_
        exact case_fault X hX hbl hbP hL hl hi4 h hW kk
      · refine lv_tableIn (off := 581) (tgt := 613) hx hb dL_law_32 (by decide +kernel) (by decide +kernel) (by decide +kernel) (by decide) ?_
        exact case_carryOut X hX hbl hbP hL hl hi4 h hW kk
      · refine lv_tableIn (off := 594) (tgt := 626) hx hb dL_law_32 (by decide +kernel) (by decide +kernel) (by decide +kernel) (by decide) ?_
        exact case_undo X hX hbl hbP hL hl hi4 h hW kk
      · refine lv_tableIn (off := 607) (tgt := 639) hx hb dL_law_32 (by decide +kernel) (by decide +kernel) (by decide +kernel) (by decide) ?_
        exact case_save X hX hbl hbP hL hl hi4 h hW kk
      · refine lv_tableIn (off := 630) (tgt := 662) hx hb dL_law_32 (by decide +kernel) (by decide +kernel) (by decide +kernel) (by decide) ?_
        exact case_restore X hX hbl hbP hL hl hi4 h hW kk
      · refine lv_tableOut (tgt := 685) hx hb dL_law_32 (Or.inr (by rw [nI_toInt (by omega)]; omega)) (by decide) ?_
        exact kk _ _ _ _ _ _ _ _ _ _ _ _ _ _ _ _ h hW
theorem df4 : ∀ j, j < 6 → defaultValue (tyX4 j) = vp_V [.null, .null, .null, .null, .null, .null] j := by
  intro j hj
  rcases (by omega : j = 0 ∨ j = 1 ∨ j = 2 ∨ j = 3 ∨ j = 4 ∨ j = 5) with rfl | rfl | rfl | rfl | rfl | rfl <;> rfl
theorem df5 : ∀ j, j < 11 → defaultValue (tyX5 j) = vp_V [.null, .null, .null, .int 0, .null, .null, .null, .int 0, .int 0, .int 0, .null] j := by
  intro j hj
  rcases (by omega : j = 0 ∨ j = 1 ∨ j = 2 ∨ j = 3 ∨ j = 4 ∨ j = 5 ∨ j = 6 ∨ j = 7 ∨ j = 8 ∨ j = 9 ∨ j = 10) with rfl | rfl | rfl | rfl | rfl | rfl | rfl | rfl | rfl | rfl | rfl <;> rfl
set_option maxHeartbeats 4000000 in
set_option maxRecDepth 100000 in
/-- YOUR PART: from the entry, for every script of at most 2048 ints, the law comes to its end with true ('hflags': the launch's flags, for a law that throws: no stack traces) -/
theorem whole_start {p : Program} {e : Env} {s : State} {m : MethodId} {below : List Frame} {meth : Method} {c : Code} (l : Launch) (hflags : l.flags = flags0) {b L : Nat} {xs : Nat → Int32} (hL : L ≤ 2048) (C0 : lw_At p s m meth c b L xs) : W p l e room_1 s m #[Value.ref b] below meth c s.heap [] 0 0 (lw_Z below #[Value.ref b] s) (entryFrame m ([Value.ref b] : List Value).toArray 4) := by
  obtain ⟨D, k, X⟩ := lw_KX C0
  have hx := X.hx
  have hb := X.hb
  have hW : KW D (fun q => s.heap.size ≤ q) s [] s.heap [] := ⟨fun k q h => by simp at h, ⟨fun i j p q h => by simp at h, fun k q h => by simp at h⟩, va_S.rf⟩
  have hl := lv_entry ([.ref b]) (n := 4) (Nat.le_of_ble_eq_true rfl)
  rw [lg_entry_eq]
  generalize (lg_sl ([.ref b]) ++ List.replicate (4 - (lg_sl ([.ref b])).length) Slot.unset).toArray = ls at hl ⊢
  have hl : lv_has ls 4 [(0, .ref b)] := hl
  refine k_new (ci := 4) X hW inG4 tyX4 tyX4_ok rfl cl_L_7 mk_X4 yi_X4_init.2.2 df4 ⟨Nat.le_of_ble_eq_true rfl, Nat.le_of_ble_eq_true rfl⟩ dL_law_0 (fun q4 H hW => ?_)
  refine lv_dup hx hb dL_law_3 rfl ?_
  refine kIv (rest := [.ref q4]) X hW (c_X4_init l D k q4) yI_X4 lk_L_9 ⟨Nat.le_of_ble_eq_true rfl, Nat.le_of_ble_eq_true rfl⟩ (wr := []) (List.Perm.refl _) hl.1 (Nat.le_of_ble_eq_true rfl) ⟨Nat.le_of_ble_eq_true rfl, Nat.le_of_ble_eq_true rfl⟩ dL_law_4 (fun w1 H locs hw1 hW1 => ?_)
  obtain ⟨B, A, rfl, hp⟩ := hw1
  have hW : KW D (fun q => s.heap.size ≤ q) s (bigW k B A (fun _ => iC) (nI 0) (nI 0) oQ iP oQ) H locs := hW1.perm hp
  refine W.widen (k := 1000) (n := 100000) (Nat.le_of_ble_eq_true rfl) (Nat.le_of_ble_eq_true rfl) ?_
  refine lv_astore_n (lv' := [(1, .ref (B 0)), (0, .ref b)]) hx hb dL_law_7 rfl hl (by decide) rfl (fun ls hl => ?_)
  refine k_new (ci := 5) X hW inG5 tyX5 tyX5_ok rfl cl_L_10 mk_X5 yi_X5_init.2.2 df5 ⟨Nat.le_of_ble_eq_true rfl, Nat.le_of_ble_eq_true rfl⟩ dL_law_8 (fun q5 H hW => ?_)
  refine lv_dup hx hb dL_law_11 rfl ?_
  refine kIv (rest := [.ref q5]) X hW (c_X5_init l D k q5) yI_X5 lk_L_12 ⟨Nat.le_of_ble_eq_true rfl, Nat.le_of_ble_eq_true rfl⟩ (wr := bigW k B A (fun _ => iC) (nI 0) (nI 0) oQ iP oQ) (List.Perm.refl _) hl.1 (Nat.le_of_ble_eq_true rfl) ⟨Nat.le_of_ble_eq_true rfl, Nat.le_of_ble_eq_true rfl⟩ dL_law_12 (fun w2 H locs hw2 hW2 => ?_)
  obtain ⟨a, rfl, rfl⟩ := hw2
  refine W.widen (k := 600000) (n := 7302250) (Nat.le_of_ble_eq_true rfl) (Nat.le_of_ble_eq_true rfl) ?_
  refine lv_astore_n (lv' := [(2, .ref (a 0)), (1, .ref (B 0)), (0, .ref b)]) hx hb dL_law_15 rfl hl (by decide) rfl (fun ls hl => ?_)
  refine lv_iconst (v := nI 0) hx hb dL_law_16 (by decide +kernel) ?_
  refine lv_istore_n (lv' := [(3, .int (nI 0)), (2, .ref (a 0)), (1, .ref (B 0)), (0, .ref b)]) hx hb dL_law_17 rfl hl (by decide) rfl (fun ls hl => ?_)
  exact law_loop hL C0 X B A a (L + 1) 0 (Nat.zero_le _) (by omega) _ _ _ _ _ _ _ _ _ _ _ _ _ _ INV_init _ _ hW2 _ hl
