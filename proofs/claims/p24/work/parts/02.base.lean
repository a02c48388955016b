/-! The base: one list of words for all methods, states, contracts whose answer and world are told exactly, the rows that walk with them -/
def GW : List Cond := lw_tbl.filter goodWord
theorem gwm {w : Cond} (i : Nat) (h : lw_tbl[i]? = some w) (hg : goodWord w = true) : w ∈ GW := List.mem_filter.mpr ⟨List.mem_of_getElem? h, hg⟩
abbrev wsY (y : MethodName) (cc : ByteArray) (n : Nat) (ret : Option FieldType) : List Cond := .code y cc n ret :: GW
theorem goodY {Ts : List Cond} {z : MethodName} {cz : ByteArray} {nz : Nat} {rz : Option FieldType} (hT : ∀ w ∈ GW, w ∈ Ts) (h : Cond.code z cz nz rz ∈ GW) : GoodIn Ts (wsY z cz nz rz) := by
  intro w hw
  rcases List.mem_cons.mp hw with rfl | hw
  · exact ⟨hT _ h, good_of_word (List.mem_filter.mp h).2⟩
  · exact ⟨hT _ hw, good_of_word (List.mem_filter.mp hw).2⟩
def k_nest : Cond → Bool
  | .fieldLinkNest .. => true
  | .methodLinkNest .. => true
  | _ => false
def NWL : List Cond := tables_1.filter k_nest
theorem nwm {w : Cond} (i : Nat) (h : tables_1[i]? = some w) (hg : k_nest w = true) : w ∈ NWL := List.mem_filter.mpr ⟨List.mem_of_getElem? h, hg⟩
abbrev CS : Type := Nat → Nat → Int32
def st2 (u : CS) (c : Nat) (f : Nat → Int32) : CS := fun c' => if c' = c then f else u c'
abbrev tysG (k : Nat → ClassId) : List (ClassId × FieldType) := [(k 0, .int), (k 1, .object RX3), (k 2, .char), (k 3, .boolean), (k 4, .object RX0)]
def SN : Nat → String := fun j => match j with
  | 0 => "LEAST_VALUES"
  | 1 => "MOST_VALUES"
  | _ => "FIRST_VALUES"
def SVi : Nat → Nat → Int32 := fun j i => match j, i with
  | 0, 0 => 1
  | 0, 1 => 1
  | 0, _ => 0
  | 1, 0 => 32
  | 1, 1 => 16
  | 1, 2 => 1
  | 1, _ => 50
  | _, 0 => 16
  | _, 1 => 4
  | _, 2 => 0
  | _, _ => 6
def va_Stat (A : Nat → Prop) (U : State) : Prop := ∀ j : Nat, j < 3 → ∃ t : Nat, va_Z RX4 (SN j) "[I" (.ref t) A U U.heap ∧ va_T .int t 4 (fun i => .int (SVi j i)) A U U.heap
def GE (A : Nat → Prop) (U : State) : Prop := (∀ w ∈ NWL, va_Nw w U) ∧ va_AO RX3 U ∧ va_AO RX0 U ∧ va_Stat A U
theorem GE.step {A A1 : Nat → Prop} {s U : State} {locs : List Loc} (h : GE A s) (hW : s.WarmedH U.vm) (hS : va_S A s.heap U.heap locs) (hA : ∀ q, A1 q → A q) : GE A1 U := by
  obtain ⟨h1, h2, h3, h4⟩ := h
  refine ⟨fun w hw => ?_, h2.moved hW.alike, h3.moved hW.alike, fun j hj => ?_⟩
  · have hn := (List.mem_filter.mp hw).2
    have hz := h1 w hw
    cases w <;> first | (exact va_Nw.warmF hW hz) | (exact va_Nw.warmM hW hz) | (simp [k_nest] at hn; done)
  · obtain ⟨t, hz, ht⟩ := h4 j hj
    exact ⟨t, ((hz.moved hW.alike).kept (fun a ha hn => hS.2.1 a ha hn)).narrow hA, ((ht.moved hW.alike).kept (fun a ha hn => hS.2.1 a ha hn)).narrow hA⟩
theorem GE.blind {A : Nat → Prop} {U : State} (h : GE A U) (g : JFrame) (mk : MethodId) (a : Array Value) : GE A (U.calling g mk a) := by
  obtain ⟨h1, h2, h3, h4⟩ := h
  refine ⟨fun w hw => ?_, h2.moved (Vm.Alike.refl U.vm), h3.moved (Vm.Alike.refl U.vm), fun j hj => ?_⟩
  · have hn := (List.mem_filter.mp hw).2
    have hz := h1 w hw
    cases w <;> first | (exact va_Nw.same rfl rfl hz) | (simp [k_nest] at hn; done)
  · obtain ⟨t, hz, ht⟩ := h4 j hj
    exact ⟨t, hz.moved (Vm.Alike.refl U.vm), ht.moved (Vm.Alike.refl U.vm)⟩
/-! worlds by membership and by order -/
theorem wP_iff {D : va_G} {cl : List vw_C} {ws : va_W} {H : Heap} : va_P D cl ws H ↔ ∀ q ∈ ws, va_at D cl q H :=
  ⟨fun h q hq => by obtain ⟨k, hk⟩ := List.mem_iff_getElem?.mp hq; exact h k q hk, fun h k q hk => h q (List.mem_of_getElem? hk)⟩
theorem wD_iff {A : Nat → Prop} {ws : va_W} : va_D A ws ↔ (ws.map (·.1)).Nodup ∧ ∀ q ∈ ws, A q.1 := by
  constructor
  · rintro ⟨h1, h2⟩
    refine ⟨?_, fun q hq => by obtain ⟨k, hk⟩ := List.mem_iff_getElem?.mp hq; exact h2 k q hk⟩
    rw [List.Nodup, List.pairwise_iff_getElem]
    intro i j hi hj hij he
    have hi' : i < ws.length := by simpa using hi
    have hj' : j < ws.length := by simpa using hj
    have := h1 i j ws[i] ws[j] (List.getElem?_eq_getElem hi') (List.getElem?_eq_getElem hj') (by simpa using he)
    omega
  · rintro ⟨h1, h2⟩
    refine ⟨fun i j p q hp hq he => ?_, fun k q hk => h2 q (List.mem_of_getElem? hk)⟩
    obtain ⟨hi, rfl⟩ := List.getElem?_eq_some_iff.mp hp
    obtain ⟨hj, rfl⟩ := List.getElem?_eq_some_iff.mp hq
    rw [List.Nodup, List.pairwise_iff_getElem] at h1
    rcases Nat.lt_trichotomy i j with h | h | h
    · exact absurd he (by have := h1 i j (by simpa using hi) (by simpa using hj) h; simpa using this)
    · exact h
    · exact absurd he.symm (by have := h1 j i (by simpa using hj) (by simpa using hi) h; simpa using this)
theorem wP_perm {D : va_G} {cl : List vw_C} {ws ws' : va_W} {H : Heap} (hp : ws.Perm ws') (h : va_P D cl ws H) : va_P D cl ws' H := wP_iff.mpr fun q hq => wP_iff.mp h q (hp.mem_iff.mpr hq)
theorem wD_perm {A : Nat → Prop} {ws ws' : va_W} (hp : ws.Perm ws') (h : va_D A ws) : va_D A ws' := by
  rw [wD_iff] at h ⊢
  exact ⟨((hp.map (·.1)).nodup_iff).mp h.1, fun q hq => h.2 q (hp.mem_iff.mpr hq)⟩
theorem w_idx {α : Type} {l l2 : List α} {n : Nat} (is : List Nat) (hl : l.length = n) (h1 : is.Perm (List.range n)) (h2 : is.map (fun i => l[i]?) = l2.map some) : l.Perm l2 := by
  subst hl
  have e1 : (List.range l.length).map (fun i => l[i]?) = l.map some := by
    apply List.ext_getElem?
    intro i
    by_cases h : i < l.length
    · simp [h]
    · simp [h]
  have e2 : (l.map some).Perm (l2.map some) := by
    rw [← e1, ← h2]
    exact (h1.map _).symm
  have e3 := e2.filterMap id
  simpa [List.filterMap_map] using e3
/-- the frame rule, by order -/
theorem w_frame {A : Nat → Prop} {D : va_G} {cl : List vw_C} {w w' wc wr w1 : va_W} {H H1 : Heap} (hP : va_P D cl w H) (hD : va_D A w) (hp : w.Perm (wr ++ wc)) (hp' : (wr ++ w1).Perm w')
    (hk : ∀ q : Nat, q < H.size → ¬ va_A wc H.size q → H1[q]? = H[q]?) (hF : ∀ q, va_A wc H.size q → A q) (hP1 : va_P D cl w1 H1) (hD1 : va_D (va_A wc H.size) w1) : va_P D cl w' H1 ∧ va_D A w' := by
  have hPw := wP_iff.mp (wP_perm hp hP)
  have hDw := wD_iff.mp (wD_perm hp hD)
  rw [List.map_append, List.nodup_append] at hDw
  obtain ⟨⟨hr, hc, hrc⟩, hA⟩ := hDw
  have hlt : ∀ q ∈ wr, q.1 < H.size := fun q hq => (hPw q (List.mem_append_left _ hq)).lt
  have hoff : ∀ q ∈ wr, ¬ va_A wc H.size q.1 := by
    rintro q hq (⟨k, e, hke⟩ | h)
    · exact hrc _ (List.mem_map_of_mem hq) _ (List.mem_map_of_mem (List.mem_of_getElem? hke)) rfl
    · exact absurd (hlt q hq) (Nat.not_lt.mpr h)
  refine ⟨wP_perm hp' (wP_iff.mpr fun q hq => ?_), wD_perm hp' (wD_iff.mpr ⟨?_, fun q hq => ?_⟩)⟩
  · rcases List.mem_append.mp hq with h | h
    · exact (hPw q (List.mem_append_left _ h)).kept (hk _ (hlt q h) (hoff q h))
    · exact wP_iff.mp hP1 q h
  · rw [List.map_append, List.nodup_append]
    refine ⟨hr, (wD_iff.mp hD1).1, ?_⟩
    intro a ha b hb e
    obtain ⟨q, hq, rfl⟩ := List.mem_map.mp ha
    obtain ⟨q2, hq2, rfl⟩ := List.mem_map.mp hb
    exact hoff q hq (e ▸ (wD_iff.mp hD1).2 q2 hq2)
  · rcases List.mem_append.mp hq with h | h
    · exact hA q (List.mem_append_left _ h)
    · exact hF _ ((wD_iff.mp hD1).2 q h)
theorem w_freeA {A : Nat → Prop} {w wc wr : va_W} {H0 H : Heap} {locs : List Loc} (hD : va_D A w) (hp : w.Perm (wr ++ wc)) (hS : va_S A H0 H locs) (hA : ∀ q, H0.size ≤ q → A q) : ∀ q, va_A wc H.size q → A q := by
  rintro q (⟨k, e, hke⟩ | h)
  · exact (wD_iff.mp (wD_perm hp hD)).2 _ (List.mem_append_right _ (List.mem_of_getElem? hke))
  · exact hA q (Nat.le_trans hS.1 h)
/-! contracts -/
abbrev rmD (d : Nat) : Room := { frames := d, cells := 0, slots := 0, locals := d * 35 }
def kPre (D : va_G) (k : Nat → ClassId) (w0 : va_W) (sz : Nat) (U : State) : Prop := U.heap.size = sz ∧ va_P D vwCl w0 U.heap ∧ va_K D vwCl (tysG k) U ∧ va_D (fun _ => True) w0 ∧ GE (va_A w0 sz) U
def kPost (D : va_G) (k : Nat → ClassId) (w0 w1 : va_W) (sz : Nat) (t : State) : Prop := va_P D vwCl w1 t.heap ∧ va_K D vwCl (tysG k) t ∧ va_D (va_A w0 sz) w1
/-- a method that answers the int r, and makes of the world w0 the world w1 -/
def mI (l : Launch) (y : MethodName) (ws : List Cond) (d : Nat) (D : va_G) (k : Nat → ClassId) (av : List Value) (w0 w1 : va_W) (r : Int32) : Prop := ∀ sz : Nat, Met l y ws (rmD d) (va_Pc av (kPre D k w0 sz)) (va_Qi (fun (r' : Int32) (_ : Unit) => r' = r) (fun _ => kPost D k w0 w1 sz) (va_A w0 sz)) 0 0 (va_A w0 sz)
/-- a method that answers nothing, and makes of the world w0 the world w1 -/
def mV (l : Launch) (y : MethodName) (ws : List Cond) (d : Nat) (D : va_G) (k : Nat → ClassId) (av : List Value) (w0 w1 : va_W) : Prop := ∀ sz : Nat, Met l y ws (rmD d) (va_Pc av (kPre D k w0 sz)) (va_Qv (fun (_ : Unit) => True) (fun _ => kPost D k w0 w1 sz) (va_A w0 sz)) 0 0 (va_A w0 sz)
def KX (p : Program) (s : State) (m : MethodId) (args : Array Value) (meth : Method) (c : Code) (cc : ByteArray) (nL : Nat) (Ts : List Cond) (own : String) (D : va_G) (k : Nat → ClassId) (A : Nat → Prop) : Prop :=
  p.tables.exec = Jvm.exec ∧ c.code = cc ∧ c.maxLocals = nL ∧ s.vm.findClass own = some m.cls ∧ (∀ w ∈ Ts, w.before args s = true) ∧ (∀ w ∈ GW, w ∈ Ts) ∧ meth.locks = false ∧ va_K D vwCl (tysG k) s ∧ GE A s ∧ (∀ q, s.heap.size ≤ q → A q)
def KW (D : va_G) (A : Nat → Prop) (s : State) (w : va_W) (H : Heap) (locs : List Loc) : Prop := va_P D vwCl w H ∧ va_D A w ∧ va_S A s.heap H locs
theorem KW.eq {D : va_G} {A : Nat → Prop} {s : State} {w w' : va_W} {H : Heap} {locs : List Loc} (h : KW D A s w H locs) (e : w = w') : KW D A s w' H locs := e ▸ h
theorem KW.perm {D : va_G} {A : Nat → Prop} {s : State} {w w' : va_W} {H : Heap} {locs : List Loc} (h : KW D A s w H locs) (e : w.Perm w') : KW D A s w' H locs := ⟨wP_perm e h.1, wD_perm e h.2.1, h.2.2⟩
theorem mI_intro {l : Launch} {y : MethodName} {cc : ByteArray} {nL d : Nat} {ret : Option FieldType} {D : va_G} {k : Nat → ClassId} {av : List Value} {w0 w1 : va_W} {r : Int32} (hy : plainName y.cls = true) (hn : (lg_sl av).length ≤ nL) (hr : ret = some .int ∨ (ret = some .boolean ∧ narrow .boolean (.int r) = .int r))
    (body : ∀ (p : Program) (e : Env) (s : State) (m : MethodId) (args : Array Value) (below : List Frame) (meth : Method) (c : Code) (A : Nat → Prop) (Q : State → Prop) (ls : Array Slot),
      KX p s m args meth c cc nL (wsY y cc nL ret) y.cls D k A → KW D A s w0 s.heap [] → lv_has ls nL (lv_args 0 av) →
      (∀ (w : va_W) (H : Heap) (locs : List Loc) (pc : Nat) (ls : Array Slot) (v : Int32), KW D A s w H locs → decode cc pc = .ok (.ireturn, 1) → v = r → w = w1 → W p l e (rmD d) s m args below meth c H locs 0 0 Q (F0 m pc ls [.int v])) →
      W p l e (rmD d) s m args below meth c s.heap [] 0 0 Q (F0 m 0 ls [])) :
    mI l y (wsY y cc nL ret) d D k av w0 w1 r := by
  intro sz
  refine Met.ofW (cc := cc) (maxL := nL) (ret := ret) hy rfl ?_
  intro p e s m args below meth c s₁ B hml hv
  obtain ⟨rfl, hsz, hP, hK, hD0, hG⟩ := hv
  subst hsz
  rw [lg_entry_eq]
  refine body p e s m _ below meth c (va_A w0 s.heap.size) _ _ ⟨B.exec, B.bytes, hml, findClass_of_methodNamed B.named, atoms_spec (ws := wsY y cc nL ret) B.pre, fun w hw => List.mem_cons_of_mem _ hw, B.notSynchronized, hK, hG, fun q h => Or.inr h⟩ ⟨hP, hD0.self, va_S.rf⟩ (lv_entry av hn) ?_
  rintro w H locs pc ls v ⟨hP, hD, hS⟩ hdg rfl rfl
  have hq : ∀ t : State, t.heap = H → s.WarmedH t.vm → va_Qi (fun (r' : Int32) (_ : Unit) => r' = v) (fun _ => kPost D k w0 w s.heap.size) (va_A w0 s.heap.size) av.toArray s (.returned (some (.int v))) t := fun t ht hW => ⟨⟨v, (), rfl, rfl, by rw [ht]; exact hP, va_K.moved hW.alike hK, hD⟩, hS.F ht⟩
  have hlocks := B.notSynchronized
  rcases hr with hr | ⟨hr, hnr⟩
  · exact W.iret B.exec B.bytes (B.returns.trans hr) hq hS.2.2 hdg hlocks
  · exact W.zret B.exec B.bytes (B.returns.trans hr) hnr hq hS.2.2 hdg hlocks
theorem mV_intro {l : Launch} {y : MethodName} {cc : ByteArray} {nL d : Nat} {D : va_G} {k : Nat → ClassId} {av : List Value} {w0 w1 : va_W} (hy : plainName y.cls = true) (hn : (lg_sl av).length ≤ nL)
    (body : ∀ (p : Program) (e : Env) (s : State) (m : MethodId) (args : Array Value) (below : List Frame) (meth : Method) (c : Code) (A : Nat → Prop) (Q : State → Prop) (ls : Array Slot),
      KX p s m args meth c cc nL (wsY y cc nL none) y.cls D k A → KW D A s w0 s.heap [] → lv_has ls nL (lv_args 0 av) →
      (∀ (w : va_W) (H : Heap) (locs : List Loc) (pc : Nat) (ls : Array Slot), KW D A s w H locs → decode cc pc = .ok (.return_, 1) → w = w1 → W p l e (rmD d) s m args below meth c H locs 0 0 Q (F0 m pc ls [])) →
      W p l e (rmD d) s m args below meth c s.heap [] 0 0 Q (F0 m 0 ls [])) :
    mV l y (wsY y cc nL none) d D k av w0 w1 := by
  intro sz
  refine Met.ofW (cc := cc) (maxL := nL) (ret := none) hy rfl ?_
  intro p e s m args below meth c s₁ B hml hv
  obtain ⟨rfl, hsz, hP, hK, hD0, hG⟩ := hv
  subst hsz
  rw [lg_entry_eq]
  refine body p e s m _ below meth c (va_A w0 s.heap.size) _ _ ⟨B.exec, B.bytes, hml, findClass_of_methodNamed B.named, atoms_spec (ws := wsY y cc nL none) B.pre, fun w hw => List.mem_cons_of_mem _ hw, B.notSynchronized, hK, hG, fun q h => Or.inr h⟩ ⟨hP, hD0.self, va_S.rf⟩ (lv_entry av hn) ?_
  rintro w H locs pc ls ⟨hP, hD, hS⟩ hdg rfl
  have hq : ∀ t : State, t.heap = H → s.WarmedH t.vm → va_Qv (fun (_ : Unit) => True) (fun _ => kPost D k w0 w s.heap.size) (va_A w0 s.heap.size) av.toArray s (.returned none) t := fun t ht hW => ⟨⟨(), rfl, trivial, by rw [ht]; exact hP, va_K.moved hW.alike hK, hD⟩, hS.F ht⟩
  have hlocks := B.notSynchronized
  exact W.vret B.exec B.bytes B.returns hq hS.2.2 hdg hlocks
