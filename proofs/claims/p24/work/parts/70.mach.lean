/-! An object of the law as one value; contracts whose world behind is only told by what holds of it; calls of the two objects -/
abbrev OB : Type := (Nat → CS) × Nat × Nat × (Nat → Int32) × (Nat → Int32) × (Nat → Int32)
abbrev oV (o : OB) : Nat → CS := o.1
abbrev oN (o : OB) : Nat := o.2.1
abbrev oS (o : OB) : Nat := o.2.2.1
abbrev oSv (o : OB) : Nat → Int32 := o.2.2.2.1
abbrev oZ (o : OB) : Nat → Int32 := o.2.2.2.2.1
abbrev oG (o : OB) : Nat → Int32 := o.2.2.2.2.2
abbrev OW (k : Nat → ClassId) (B : Nat → Nat) (A : Nat → Nat → Nat) (o : OB) : va_W := bigW k B A (oV o) (nI (oN o)) (nI (oS o)) (oSv o) (oZ o) (oG o)
/-- a method that answers the int r, and makes of the world w0 one of which P holds -/
def mP (l : Launch) (y : MethodName) (ws : List Cond) (d : Nat) (D : va_G) (k : Nat → ClassId) (av : List Value) (w0 : va_W) (P : va_W → Prop) (r : Int32) : Prop := ∀ sz : Nat, Met l y ws (rmD d) (va_Pc av (kPre D k w0 sz)) (va_Qi (fun (r' : Int32) (w1 : va_W) => r' = r ∧ P w1) (fun w1 => kPost D k w0 w1 sz) (va_A w0 sz)) 0 0 (va_A w0 sz)
theorem mP_intro {l : Launch} {y : MethodName} {cc : ByteArray} {nL d : Nat} {ret : Option FieldType} {D : va_G} {k : Nat → ClassId} {av : List Value} {w0 : va_W} {P : va_W → Prop} {r : Int32} (hy : plainName y.cls = true) (hn : (lg_sl av).length ≤ nL) (hr : ret = some .int ∨ (ret = some .boolean ∧ narrow .boolean (.int r) = .int r))
    (body : ∀ (p : Program) (e : Env) (s : State) (m : MethodId) (args : Array Value) (below : List Frame) (meth : Method) (c : Code) (A : Nat → Prop) (Q : State → Prop) (ls : Array Slot),
      KX p s m args meth c cc nL (wsY y cc nL ret) y.cls D k A → KW D A s w0 s.heap [] → lv_has ls nL (lv_args 0 av) →
      (∀ (w : va_W) (H : Heap) (locs : List Loc) (pc : Nat) (ls : Array Slot) (v : Int32), KW D A s w H locs → decode cc pc = .ok (.ireturn, 1) → v = r → P w → W p l e (rmD d) s m args below meth c H locs 0 0 Q (F0 m pc ls [.int v])) →
      W p l e (rmD d) s m args below meth c s.heap [] 0 0 Q (F0 m 0 ls [])) :
    mP l y (wsY y cc nL ret) d D k av w0 P r := by
  intro sz
  refine Met.ofW (cc := cc) (maxL := nL) (ret := ret) hy rfl ?_
  intro p e s m args below meth c s₁ B hml hv
  obtain ⟨rfl, hsz, hP, hK, hD0, hG⟩ := hv
  subst hsz
  rw [lg_entry_eq]
  refine body p e s m _ below meth c (va_A w0 s.heap.size) _ _ ⟨B.exec, B.bytes, hml, findClass_of_methodNamed B.named, atoms_spec (ws := wsY y cc nL ret) B.pre, fun w hw => List.mem_cons_of_mem _ hw, B.notSynchronized, hK, hG, fun q h => Or.inr h⟩ ⟨hP, hD0.self, va_S.rf⟩ (lv_entry av hn) ?_
  rintro w H locs pc ls v ⟨hP1, hD, hS⟩ hdg rfl hPw
  have hq : ∀ t : State, t.heap = H → s.WarmedH t.vm → va_Qi (fun (r' : Int32) (w1 : va_W) => r' = v ∧ P w1) (fun w1 => kPost D k w0 w1 s.heap.size) (va_A w0 s.heap.size) av.toArray s (.returned (some (.int v))) t := fun t ht hW => ⟨⟨v, w, rfl, ⟨rfl, hPw⟩, by rw [ht]; exact hP1, va_K.moved hW.alike hK, hD⟩, hS.F ht⟩
  have hlocks := B.notSynchronized
  rcases hr with hr | ⟨hr, hnr⟩
  · exact W.iret B.exec B.bytes (B.returns.trans hr) hq hS.2.2 hdg hlocks
  · exact W.zret B.exec B.bytes (B.returns.trans hr) hnr hq hS.2.2 hdg hlocks
section
variable {p : Program} {l : Launch} {e : Env} {R : Room} {s : State} {m : MethodId} {args : Array Value} {below : List Frame} {meth : Method} {c : Code} {H : Heap} {locs : List Loc} {cells slots : Nat} {Q : State → Prop} {cc : ByteArray} {nL : Nat} {Ts : List Cond} {own : String} {D : va_G} {k : Nat → ClassId} {A : Nat → Prop} {w w' : va_W} {pc : Nat} {ls : Array Slot} {rest : List Value} {index : Nat}
variable {y : MethodName} {cz : ByteArray} {nz dz n : Nat} {rz : Option FieldType} {wc w1 wr : va_W} {As st : List Value} {r : Int32} {P : va_W → Prop}
theorem k_cp (X : KX p s m args meth c cc nL Ts own D k A) (hW : KW D A s w H locs) (hp : w.Perm (wr ++ wc)) (hr : va_Run p l e R s m args below meth c H locs cells slots 0 0 (F0 m pc ls st) rest (va_Qi (fun (r' : Int32) (w1 : va_W) => r' = r ∧ P w1) (fun w1 => kPost D k wc w1 H.size) (va_A wc H.size) #[]) (va_A wc H.size))
    (kk : ∀ (w1 : va_W) (H1 : Heap) (locs1 : List Loc), P w1 → KW D A s (wr ++ w1) H1 locs1 → W p l e R s m args below meth c H1 locs1 cells slots Q (F0 m (pc + 3) ls (.int r :: rest))) : W p l e R s m args below meth c H locs cells slots Q (F0 m pc ls st) := by
  have hF := w_freeA hW.2.1 hp hW.2.2 X.hA
  refine va_calli hr hW.2.2 (fun q _ h => hF q h) hF (fun r' u t H1 locs1 ht hvm hw hB hz1 hk1 hS1 => ?_)
  obtain ⟨hP1, -, hD1⟩ := hB
  rw [ht] at hP1
  obtain ⟨g1, g2⟩ := w_frame hW.1 hW.2.1 hp (List.Perm.refl _) hk1 hF hP1 hD1
  obtain ⟨rfl, hPu⟩ := hw
  exact kk u H1 locs1 hPu ⟨g1, g2, hS1⟩
/-- a static method over a part of the world -/
theorem kSw (X : KX p s m args meth c cc nL Ts own D k A) (hW : KW D A s w H locs) (hM : mI l y (wsY y cz nz rz) dz D k As wc w1 r) (hY : yS y cz nz rz n) (hlink : Cond.methodLink own index y ∈ GW) (hR : dz + 1 ≤ R.frames ∧ 8 + (nz + 11) + dz * 35 ≤ R.locals) (hp : w.Perm (wr ++ wc)) (hp' : (wr ++ w1).Perm w') (hn : As.length = n) (hsz : ls.size = nL) (hs : st = As.reverse ++ rest) (hroom : (rest.map fun v => v.category).sum ≤ 8) (hf : cells ≤ R.cells ∧ slots ≤ R.slots) (hdg : decode cc pc = .ok (.invokestatic index, 3))
    (kk : ∀ (H1 : Heap) (locs1 : List Loc), KW D A s w' H1 locs1 → W p l e R s m args below meth c H1 locs1 cells slots Q (F0 m (pc + 3) ls (.int r :: rest))) : W p l e R s m args below meth c H locs cells slots Q (F0 m pc ls st) := by
  obtain ⟨h1, h2, h4, h6⟩ := hY
  exact k_ci X hW hp hp' (va_runS (As := As) (rest := rest) ⟨X.hx, X.hb, X.hml, X.hown, X.hts⟩ (hM H.size) ⟨k_cwB X h1 h4 h6 hlink hR, X.wd h2⟩ ⟨k_blind, k_pre X hW hp _⟩ rfl hn hsz hs (lv_room hroom) hdg hf) kk
theorem kSp (X : KX p s m args meth c cc nL Ts own D k A) (hW : KW D A s w H locs) (hM : mP l y (wsY y cz nz rz) dz D k As wc P r) (hY : yS y cz nz rz n) (hlink : Cond.methodLink own index y ∈ GW) (hR : dz + 1 ≤ R.frames ∧ 8 + (nz + 11) + dz * 35 ≤ R.locals) (hp : w.Perm (wr ++ wc)) (hn : As.length = n) (hsz : ls.size = nL) (hs : st = As.reverse ++ rest) (hroom : (rest.map fun v => v.category).sum ≤ 8) (hf : cells ≤ R.cells ∧ slots ≤ R.slots) (hdg : decode cc pc = .ok (.invokestatic index, 3))
    (kk : ∀ (w1 : va_W) (H1 : Heap) (locs1 : List Loc), P w1 → KW D A s (wr ++ w1) H1 locs1 → W p l e R s m args below meth c H1 locs1 cells slots Q (F0 m (pc + 3) ls (.int r :: rest))) : W p l e R s m args below meth c H locs cells slots Q (F0 m pc ls st) := by
  obtain ⟨h1, h2, h4, h6⟩ := hY
  exact k_cp X hW hp (va_runS (As := As) (rest := rest) ⟨X.hx, X.hb, X.hml, X.hown, X.hts⟩ (hM H.size) ⟨k_cwB X h1 h4 h6 hlink hR, X.wd h2⟩ ⟨k_blind, k_pre X hW hp _⟩ rfl hn hsz hs (lv_room hroom) hdg hf) kk
variable {B B' : Nat → Nat} {A0 A1 : Nat → Nat → Nat} {o o' : OB}
theorem o_rcv (X : KX p s m args meth c cc nL Ts own D k A) (hW : KW D A s w H locs) (hm : ∀ q ∈ OW k B A0 o, q ∈ w) : ∃ cell : Cell, H[B 0]? = some cell ∧ cell.vm.isStatics = false ∧ s.vm.findClass RX4 = some cell.cls := by
  obtain ⟨q0, h⟩ := List.mem_iff_getElem?.mp (hm _ (List.mem_cons_self : _ ∈ OW k B A0 o))
  exact k_rcv X hW (ci := 4) rfl h
/-- a call of the object that stands first in the world -/
theorem k_o (X : KX p s m args meth c cc nL Ts own D k A) (hW : KW D A s (OW k B A0 o ++ wr) H locs) (hM : mI l y (wsY y cz nz rz) dz D k (.ref (B 0) :: As) (OW k B A0 o) (OW k B A0 o') r) (hY : yV y cz nz rz RX4 n) (hlink : Cond.methodLink own index y ∈ GW) (hR : dz + 1 ≤ R.frames ∧ 8 + (nz + 11) + dz * 35 ≤ R.locals) (hn : As.length = n) (hsz : ls.size = nL) (hs : st = As.reverse ++ .ref (B 0) :: rest) (hroom : (rest.map fun v => v.category).sum ≤ 8) (hf : cells ≤ R.cells ∧ slots ≤ R.slots) (hdg : decode cc pc = .ok (.invokevirtual index, 3))
    (kk : ∀ (H1 : Heap) (locs1 : List Loc), KW D A s (OW k B A0 o' ++ wr) H1 locs1 → W p l e R s m args below meth c H1 locs1 cells slots Q (F0 m (pc + 3) ls (.int r :: rest))) : W p l e R s m args below meth c H locs cells slots Q (F0 m pc ls st) :=
  kVi (wr := wr) (w' := OW k B A0 o' ++ wr) X hW hM hY hlink hR List.perm_append_comm List.perm_append_comm (o_rcv (o := o) X hW (fun q h => List.mem_append_left _ h)) hn hsz hs hroom hf hdg kk
/-- a call of the object that stands last -/
theorem k_p (X : KX p s m args meth c cc nL Ts own D k A) (hW : KW D A s (wr ++ OW k B A0 o) H locs) (hM : mI l y (wsY y cz nz rz) dz D k (.ref (B 0) :: As) (OW k B A0 o) (OW k B A0 o') r) (hY : yV y cz nz rz RX4 n) (hlink : Cond.methodLink own index y ∈ GW) (hR : dz + 1 ≤ R.frames ∧ 8 + (nz + 11) + dz * 35 ≤ R.locals) (hn : As.length = n) (hsz : ls.size = nL) (hs : st = As.reverse ++ .ref (B 0) :: rest) (hroom : (rest.map fun v => v.category).sum ≤ 8) (hf : cells ≤ R.cells ∧ slots ≤ R.slots) (hdg : decode cc pc = .ok (.invokevirtual index, 3))
    (kk : ∀ (H1 : Heap) (locs1 : List Loc), KW D A s (wr ++ OW k B A0 o') H1 locs1 → W p l e R s m args below meth c H1 locs1 cells slots Q (F0 m (pc + 3) ls (.int r :: rest))) : W p l e R s m args below meth c H locs cells slots Q (F0 m pc ls st) :=
  kVi (wr := wr) (w' := wr ++ OW k B A0 o') X hW hM hY hlink hR (List.Perm.refl _) (List.Perm.refl _) (o_rcv (o := o) X hW (fun q h => List.mem_append_right _ h)) hn hsz hs hroom hf hdg kk
end
/-! the law's own small methods -/
def upn (v : Int32) (n : Nat) : Nat := tn (v &&& 2147483647) % n
theorem upn_lt (v : Int32) {n : Nat} (h : 0 < n) : upn v n < n := Nat.mod_lt _ h
set_option maxHeartbeats 4000000 in
set_option maxRecDepth 100000 in
theorem c_L_up (l : Launch) (D : va_G) (k : Nat → ClassId) (v : Int32) (n : Nat) (h0 : 0 < n) (hn : n < 2 ^ 31) : mI l yL_up (wsY yL_up cL_up 2 (some .int)) 0 D k [.int v, .int (nI n)] [] [] (nI (upn v n)) := by
  refine mI_intro rfl (Nat.le_of_ble_eq_true rfl) (Or.inl rfl) ?_
  intro p e s m args below meth c A Q ls X hW hl hQ
  have hx := X.hx
  have hb := X.hb
  have hl : lv_has ls 2 [(0, .int v), (1, .int (nI n))] := hl
  refine lv_iload_n hx hb dL_up_0 rfl (lv_at hl 0 rfl) ?_
  refine lv_ldc hx hb X.hown (X.wd ki_L_8) dL_up_1 ?_
  refine lv_iand hx hb dL_up_3 ?_
  refine lv_iload_n hx hb dL_up_4 rfl (lv_at hl 1 rfl) ?_
  refine lv_irem hx hb dL_up_5 (fun z => ?_) ?_
  · have := (nI_eq (b := 0) hn (by decide)).mp z; omega
  obtain ⟨j, hj, ej⟩ := pk_andE v (m := 2147483647) 31 (by decide +kernel)
  have e2 : upn v n = j % n := by unfold upn; rw [ej, tn_of rfl hj]
  refine k_top (y := nI (j % n)) (by rw [ej]; exact pk_rem hj h0 hn) ?_
  exact hQ _ _ _ _ _ _ hW dL_up_6 (congrArg nI e2.symm) rfl
def cellv (xs : Nat → Int32) (L j : Nat) : Int32 := if j < L then xs j else 2144986049 * (nI j + nI 1361)
def mCell (l : Launch) (D : va_G) (k : Nat → ClassId) (b L : Nat) (xs : Nat → Int32) (j : Nat) : Prop := ∀ sz : Nat, Met l yL_cell (wsY yL_cell cL_cell 2 (some .int)) (rmD 0) (va_Pc [.ref b, .int (nI j)] (fun U => kPre D k [] sz U ∧ b < sz ∧ va_X b L xs U U.heap)) (va_Qi (fun (r' : Int32) (_ : Unit) => r' = cellv xs L j) (fun _ => kPost D k [] [] sz) (va_A [] sz)) 0 0 (va_A [] sz)
set_option maxHeartbeats 4000000 in
set_option maxRecDepth 100000 in
theorem c_L_cell (l : Launch) (D : va_G) (k : Nat → ClassId) (b L : Nat) (xs : Nat → Int32) (j : Nat) (hL : L < 2 ^ 31) (hj : j < 2 ^ 31) : mCell l D k b L xs j := by
  intro sz
  refine Met.ofW (cc := cL_cell) (maxL := 2) (ret := some .int) rfl rfl ?_
  intro p e s m args below meth c s₁ B hml hv
  obtain ⟨rfl, ⟨hsz, hP, hK, hD0, hG⟩, hbs, hXs⟩ := hv
  subst hsz
  rw [lg_entry_eq]
  have hx := B.exec
  have hb := B.bytes
  have hown := findClass_of_methodNamed B.named
  have hts := atoms_spec (ws := wsY yL_cell cL_cell 2 (some .int)) B.pre
  have hS : va_S (va_A [] s.heap.size) s.heap s.heap [] := va_S.rf
  have hbA : ¬ va_A [] s.heap.size b := by
    rintro (⟨q, e, h⟩ | h)
    · simp at h
    · omega
  have hlocks := B.notSynchronized
  have fin : ∀ (pc : Nat) (ls : Array Slot) (v : Int32), decode cL_cell pc = .ok (.ireturn, 1) → v = cellv xs L j → W p l e (rmD 0) s m [Value.ref b, .int (nI j)].toArray below meth c s.heap [] 0 0 (MQ below (va_Qi (fun (r' : Int32) (_ : Unit) => r' = cellv xs L j) (fun _ => kPost D k [] [] s.heap.size) (va_A [] s.heap.size)) [Value.ref b, .int (nI j)].toArray s 0 0 (va_A [] s.heap.size)) (F0 m pc ls [.int v]) := by
    intro pc ls v hdg hv
    have hq : ∀ t : State, t.heap = s.heap → s.WarmedH t.vm → va_Qi (fun (r' : Int32) (_ : Unit) => r' = cellv xs L j) (fun _ => kPost D k [] [] s.heap.size) (va_A [] s.heap.size) [Value.ref b, .int (nI j)].toArray s (.returned (some (.int v))) t := fun t ht hW => ⟨⟨v, (), rfl, hv, by rw [ht]; exact hP, va_K.moved hW.alike hK, hD0.self⟩, hS.F ht⟩
    exact W.iret B.exec B.bytes B.returns hq hS.2.2 hdg hlocks
  have hl := lv_entry [.ref b, .int (nI j)] (n := 2) (Nat.le_of_ble_eq_true rfl)
  generalize (lg_sl [Value.ref b, .int (nI j)] ++ List.replicate (2 - (lg_sl [Value.ref b, .int (nI j)]).length) Slot.unset).toArray = ls at hl ⊢
  have hl : lv_has ls 2 [(0, .ref b), (1, .int (nI j))] := hl
  refine lv_iload_n hx hb dL_cell_0 rfl (lv_at hl 1 rfl) ?_
  refine lv_aload_n hx hb dL_cell_1 rfl (lv_at hl 0 rfl) ?_
  refine va_slen hx hb hXs hbs hbA hS dL_cell_2 ?_
  refine lv_icmp_ge (tgt := 12) hx hb dL_cell_3 (by decide) (fun c1 => ?_) (fun c1 => ?_)
  · have c1 : nI L ≤ nI j := c1
    rw [nI_leI hL hj] at c1
    refine lv_ldc hx hb hown (hts _ (List.mem_cons_of_mem _ ki_L_7)) dL_cell_12 ?_
    refine lv_iload_n hx hb dL_cell_14 rfl (lv_at hl 1 rfl) ?_
    refine lv_sipush (v := nI 1361) hx hb dL_cell_15 (by decide +kernel) ?_
    refine lv_iadd hx hb dL_cell_18 ?_
    refine lv_imul hx hb dL_cell_19 ?_
    exact fin 20 ls _ dL_cell_20 (by unfold cellv; rw [if_neg (by omega)])
  · have c1 : ¬ nI L ≤ nI j := c1
    rw [nI_leI hL hj] at c1
    refine lv_aload_n hx hb dL_cell_6 rfl (lv_at hl 0 rfl) ?_
    refine lv_iload_n hx hb dL_cell_7 rfl (lv_at hl 1 rfl) ?_
    refine va_sld hx hb hXs hbs hbA hS (vp_in_nI (by omega) hL) dL_cell_8 ?_
    refine k_top (congrArg xs (nI_clamp hj)) ?_
    refine lv_goto (tgt := 20) hx hb dL_cell_9 (by decide) ?_
    exact fin 20 ls _ dL_cell_20 (by unfold cellv; rw [if_pos (by omega)])
section
variable {p : Program} {l : Launch} {e : Env} {R : Room} {s : State} {m : MethodId} {args : Array Value} {below : List Frame} {meth : Method} {c : Code} {H : Heap} {locs : List Loc} {cells slots : Nat} {Q : State → Prop} {cc : ByteArray} {nL : Nat} {Ts : List Cond} {own : String} {D : va_G} {k : Nat → ClassId} {A : Nat → Prop} {w : va_W} {pc : Nat} {ls : Array Slot} {rest st : List Value} {index b L j : Nat} {xs : Nat → Int32}
/-- a number of the script, or the one that stands for it beyond its end -/
theorem kCell (X : KX p s m args meth c cc nL Ts own D k A) (hW : KW D A s w H locs) (hX : va_X b L xs s s.heap) (hbl : b < s.heap.size) (hbA : ¬ A b) (hL : L < 2 ^ 31) (hj : j < 2 ^ 31) (hlink : Cond.methodLink own index yL_cell ∈ GW) (hR : 0 + 1 ≤ R.frames ∧ 8 + (2 + 11) + 0 * 35 ≤ R.locals) (hsz : ls.size = nL) (hs : st = [.int (nI j), .ref b] ++ rest) (hroom : (rest.map fun v => v.category).sum ≤ 8) (hf : cells ≤ R.cells ∧ slots ≤ R.slots) (hdg : decode cc pc = .ok (.invokestatic index, 3))
    (kk : ∀ (H1 : Heap) (locs1 : List Loc), KW D A s w H1 locs1 → W p l e R s m args below meth c H1 locs1 cells slots Q (F0 m (pc + 3) ls (.int (cellv xs L j) :: rest))) : W p l e R s m args below meth c H locs cells slots Q (F0 m pc ls st) := by
  obtain ⟨h1, h2, h4, h6⟩ := yw_L_cell
  refine k_ci X hW (wr := w) (wc := []) (w1 := []) (by simp) (by simp) (va_runS (As := [.ref b, .int (nI j)]) (rest := rest) ⟨X.hx, X.hb, X.hml, X.hown, X.hts⟩ (c_L_cell l D k b L xs j hL hj H.size) ⟨k_cwB X h1 h4 h6 hlink hR, X.wd h2⟩ ⟨fun a U g mk q => ?_, fun U hU hwm => ?_⟩ rfl rfl hsz hs (lv_room hroom) hdg hf) kk
  · obtain ⟨q0, q1, q2, q3⟩ := q
    have q4 := k_blind (D := D) (k := k) (av := [.ref b, .int (nI j)]) (w0 := []) (sz := H.size) a U g mk ⟨q0, q1⟩
    exact ⟨q0, q4.2, q2, va_X.moved (u := U) (U := U.calling g mk a) (Vm.Alike.refl U.vm) q3⟩
  · have q1 := k_pre X hW (wr := w) (wc := []) (by simp) [.ref b, .int (nI j)] U hU hwm
    refine ⟨q1.1, q1.2, Nat.lt_of_lt_of_le hbl hW.2.2.1, ?_⟩
    rw [hU]
    exact (hX.kept (hW.2.2.2.1 b hbl hbA)).moved hwm.alike
end
