/-! What is made: contracts that take cells, rows for new objects, new arrays and calls of constructors -/
abbrev rmC (d mc ms : Nat) : Room := { frames := d, cells := mc, slots := ms, locals := d * 35 }
/-- a constructor that takes mc cells of ms slots, and makes of the world w0 a world that P speaks of -/
def mC (l : Launch) (y : MethodName) (ws : List Cond) (d mc ms : Nat) (D : va_G) (k : Nat → ClassId) (av : List Value) (w0 : va_W) (P : va_W → Prop) : Prop := ∀ sz : Nat, Met l y ws (rmC d mc ms) (va_Pc av (kPre D k w0 sz)) (va_Qv (fun (_ : Unit) => True) (fun _ t => ∃ w1, P w1 ∧ kPost D k w0 w1 sz t) (va_A w0 sz)) mc ms (va_A w0 sz)
theorem mC_intro {l : Launch} {y : MethodName} {cc : ByteArray} {nL d mc ms : Nat} {D : va_G} {k : Nat → ClassId} {av : List Value} {w0 : va_W} {P : va_W → Prop} (hy : plainName y.cls = true) (hi : y.name = "<init>") (hn : (lg_sl av).length ≤ nL)
    (body : ∀ (p : Program) (e : Env) (s : State) (m : MethodId) (args : Array Value) (below : List Frame) (meth : Method) (c : Code) (A : Nat → Prop) (Q : State → Prop) (ls : Array Slot),
      KX p s m args meth c cc nL (wsY y cc nL none) y.cls D k A → KW D A s w0 s.heap [] → lv_has ls nL (lv_args 0 av) → meth.name = "<init>" →
      (∀ (w : va_W) (H : Heap) (locs : List Loc) (pc : Nat) (ls : Array Slot), KW D A s w H locs → decode cc pc = .ok (.return_, 1) → P w → W p l e (rmC d mc ms) s m args below meth c H locs mc ms Q (F0 m pc ls [])) →
      W p l e (rmC d mc ms) s m args below meth c s.heap [] 0 0 Q (F0 m 0 ls [])) :
    mC l y (wsY y cc nL none) d mc ms D k av w0 P := by
  intro sz
  refine Met.ofW (cc := cc) (maxL := nL) (ret := none) hy rfl ?_
  intro p e s m args below meth c s₁ B hml hv
  obtain ⟨rfl, hsz, hP, hK, hD0, hG⟩ := hv
  subst hsz
  rw [lg_entry_eq]
  refine body p e s m _ below meth c (va_A w0 s.heap.size) _ _ ⟨B.exec, B.bytes, hml, findClass_of_methodNamed B.named, atoms_spec (ws := wsY y cc nL none) B.pre, fun w hw => List.mem_cons_of_mem _ hw, B.notSynchronized, hK, hG, fun q h => Or.inr h⟩ ⟨hP, hD0.self, va_S.rf⟩ (lv_entry av hn) ((name_of_methodNamed B.named B.method).1.trans hi) ?_
  rintro w H locs pc ls ⟨hP, hD, hS⟩ hdg hPw
  have hq : ∀ t : State, t.heap = H → s.WarmedH t.vm → va_Qv (fun (_ : Unit) => True) (fun _ t => ∃ w1, P w1 ∧ kPost D k w0 w1 s.heap.size t) (va_A w0 s.heap.size) av.toArray s (.returned none) t := fun t ht hW => ⟨⟨(), rfl, trivial, w, hPw, by rw [ht]; exact hP, va_K.moved hW.alike hK, hD⟩, hS.F ht⟩
  have hlocks := B.notSynchronized
  exact W.vret B.exec B.bytes B.returns hq hS.2.2 hdg hlocks
section
variable {p : Program} {l : Launch} {e : Env} {R : Room} {s : State} {m : MethodId} {args : Array Value} {below : List Frame} {meth : Method} {c : Code} {H : Heap} {locs : List Loc} {cells slots : Nat} {Q : State → Prop} {cc : ByteArray} {nL : Nat} {Ts : List Cond} {own : String} {D : va_G} {k : Nat → ClassId} {A : Nat → Prop} {w w' : va_W} {pc : Nat} {ls : Array Slot} {rest : List Value} {a : Nat} {index : Nat}
/-- the word of Object's constructor, called -/
theorem k_obj (X : KX p s m args meth c cc nL Ts own D k A) (hlink : Cond.methodLink own index Lib.objectInit ∈ GW) (hl : ls.size = nL) (hR : 1 ≤ R.frames ∧ (rest.map fun v => v.category).sum + 12 ≤ R.locals) (hdg : decode cc pc = .ok (.invokespecial index, 3))
    (kk : W p l e R s m args below meth c H locs cells slots Q (F0 m (pc + 3) ls rest)) : W p l e R s m args below meth c H locs cells slots Q (F0 m pc ls (.ref a :: rest)) := by
  refine W.objInit X.hx X.hb X.hown (X.wd hlink) (X.wd in_obj) (X.wd cd_obj) rfl (by rw [X.hml]; exact hl) rfl hdg hR.1 (by show 2 * 0 + _ + 12 ≤ _; omega) ?_
  exact W.eq (g2 := F0 m (pc + 3) ls rest) rfl kk
/-- a new object of class ci, all fields as they are born -/
theorem k_new (X : KX p s m args meth c cc nL Ts own D k A) (hW : KW D A s w H locs) {C : String} {T : u_T} {N ci : Nat} (hg : ∀ q ∈ u_ws C T N, q ∈ GW) (ty : Nat → FieldType) (hty : ∀ j, j < N → parseFieldDescriptor (T j).2.2.1 = some (ty j)) (hc : vwCl[ci]? = some (C, T, N)) (hcl : Cond.classLink own index C ∈ GW) (hmk : Cond.instantiable C N ∈ GW) (hini : Cond.initialized C ∈ GW) {fs : List Value} (hfs : ∀ j, j < N → defaultValue (ty j) = vp_V fs j) (hR : cells + 1 ≤ R.cells ∧ slots + N ≤ R.slots) (hdg : decode cc pc = .ok (.new index, 3))
    (kk : ∀ (q : Nat) (H1 : Heap), KW D A s (w ++ [(q, .inr (ci, fs))]) H1 locs → W p l e R s m args below meth c H1 locs (cells + 1) (slots + N) Q (F0 m (pc + 3) ls (.ref q :: rest))) : W p l e R s m args below meth c H locs cells slots Q (F0 m pc ls rest) :=
  va_new X.hx X.hb X.hts (fun q hq => X.hin q (hg q hq)) ty hty X.hown (X.wd hcl) (X.wd hmk) (X.wd hini) X.hK hW.1 hW.2.1 hW.2.2 X.hA hc hfs hR.1 hR.2 hdg (fun q H1 h1 h2 h3 => kk q H1 ⟨h1, h2, h3⟩)
/-- a new array of plain values -/
theorem k_newa (X : KX p s m args meth c cc nL Ts own D k A) (hW : KW D A s w H locs) {atype : ArrayType} {ty : FieldType} (harr : Cond.arrayClass ty ∈ GW) (hty : newarray.typeOf atype = ty) (t0 : Nat) (ht : (tysG k)[t0]? = some (k t0, ty)) (hr : ∀ (U : State) (cA : ClassId), va_RA U cA ty → U.vm.findClass ("[" ++ ty.toString) = some cA) {n : Int32} {N' : Nat} {a0 : vp_A} (ha : ∀ cA : ClassId, vp_cell cA a0 = arrV cA N' (fun _ => defaultValue ty)) (hn : n = nI N') (hN : N' < 2 ^ 31) (hb : N' * componentBytes ty ≤ 536870912) (hR : cells + 1 ≤ R.cells ∧ slots + N' ≤ R.slots) (hdg : decode cc pc = .ok (.newarray atype, 2))
    (kk : ∀ (q : Nat) (H1 : Heap), KW D A s (w ++ [(q, .inl (k t0, a0))]) H1 locs → W p l e R s m args below meth c H1 locs (cells + 1) (slots + N') Q (F0 m (pc + 2) ls (.ref q :: rest))) : W p l e R s m args below meth c H locs cells slots Q (F0 m pc ls (.int n :: rest)) := by
  subst hn
  refine va_newa X.hx X.hb (by rw [hty]; exact X.wd harr) hty X.hK hW.1 hW.2.1 hW.2.2 X.hA ha (nI_pos hN) (nI_clamp hN) hb hR.1 hR.2 hdg (fun q cA H1 hK1 h1 h2 h3 => ?_)
  have e1 := hr s cA ((hK1.2 5 (cA, ty) rfl).2)
  have e2 := hr s (k t0) ((X.hK.2 t0 _ ht).2)
  have e3 : cA = k t0 := Option.some.inj (e1.symm.trans e2)
  subst e3
  exact kk q H1 ⟨h1, h2, h3⟩
/-- a new array of objects, all empty -/
theorem k_newq (X : KX p s m args meth c cc nL Ts own D k A) (hW : KW D A s w H locs) {C : String} (hcl : Cond.classLink own index C ∈ GW) (ho : va_AO C s) (t0 : Nat) (ht : (tysG k)[t0]? = some (k t0, .object C)) {n : Int32} {N' : Nat} (hn : n = nI N') (hN : N' < 2 ^ 27) (hR : cells + 1 ≤ R.cells ∧ slots + N' ≤ R.slots) (hdg : decode cc pc = .ok (.anewarray index, 3))
    (kk : ∀ (q : Nat) (H1 : Heap), KW D A s (w ++ [(q, .inl (k t0, N', .inr (.inr (.inr (.inr (fun _ => none))))))]) H1 locs → W p l e R s m args below meth c H1 locs (cells + 1) (slots + N') Q (F0 m (pc + 3) ls (.ref q :: rest))) : W p l e R s m args below meth c H locs cells slots Q (F0 m pc ls (.int n :: rest)) := by
  subst hn
  refine va_newq X.hx X.hb X.hown (X.wd hcl) ho X.hK hW.1 hW.2.1 hW.2.2 X.hA (nI_pos (by omega)) (nI_clamp (by omega)) (by omega) hR.1 hR.2 hdg (fun q cA H1 hK1 h1 h2 h3 => ?_)
  obtain ⟨_, _, _, _, _, e1⟩ := (hK1.2 5 (cA, .object C) rfl).2
  obtain ⟨_, _, _, _, _, e2⟩ := (X.hK.2 t0 _ ht).2
  have e3 : cA = k t0 := Option.some.inj (e1.symm.trans e2)
  subst e3
  exact kk q H1 ⟨h1, h2, h3⟩
/-- a field that is told once, in the constructor -/
theorem k_putF (X : KX p s m args meth c cc nL Ts own D k A) (hW : KW D A s w H locs) (hmn : meth.name = "<init>") {T : u_T} {N ci : Nat} (hg : ∀ q ∈ u_ws own T N, q ∈ GW) (hc : vwCl[ci]? = some (own, T, N)) {ty0 : Nat → FieldType} (hty : ∀ j, j < N → parseFieldDescriptor (T j).2.2.1 = some (ty0 j)) (hnm : ∀ a, a < N → ∀ b, b < N → a ≠ b → (T a).2.1 ≠ (T b).2.1) (kf : Nat) (hk : kf < N) (hlink : Cond.fieldLink own index own (T kf).2.1 (T kf).2.2.1 ∈ GW) (hcl : (T kf).1 = own) (hfin : (T kf).2.2.2 = true) (q0 : Nat) {fs : List Value} (he : w[q0]? = some (a, .inr (ci, fs))) {v : Value} (hn : narrow (ty0 kf) v = v) (hfit : fits (ty0 kf) v = true) (hl : kf < fs.length) (hdg : decode cc pc = .ok (.putfield index, 3)) (hw' : w.set q0 (a, .inr (ci, fs.set kf v)) = w')
    (kk : ∀ (H1 : Heap) (locs1 : List Loc), KW D A s w' H1 locs1 → W p l e R s m args below meth c H1 locs1 cells slots Q (F0 m (pc + 3) ls rest)) : W p l e R s m args below meth c H locs cells slots Q (F0 m pc ls (v :: .ref a :: rest)) :=
  va_putF X.hx X.hb X.hts (fun q h => X.hin q (hg q h)) ty0 hty hnm X.hown X.hK hW.1 hW.2.1 hW.2.2 q0 he hc kf hk (X.wd hlink) (fun _ h => by rw [hcl] at h; exact h) hfin hmn hcl (hty kf hk) hn hfit hl hdg (fun H1 locs1 h1 h2 h3 => kk H1 locs1 (by rw [hw'] at h1 h2; exact ⟨h1, h2, h3⟩))
/-- a constructor of the own words, called on what was just made -/
def yI (y : MethodName) (cz : ByteArray) (nz : Nat) : Prop := Cond.code y cz nz none ∈ GW ∧ Cond.instanceMethod y ∈ GW ∧ Cond.initialized y.cls ∈ GW ∧ y.name = "<init>" ∧ (y.cls ≠ "java/lang/invoke/MethodHandle" ∧ y.cls ≠ "java/lang/invoke/VarHandle" ∧ (parseMethodDescriptor y.desc).map (fun d => d.parameters.length) = some 0)
variable {y : MethodName} {cz : ByteArray} {nz dz mc ms : Nat} {wc wr : va_W} {b : Nat} {P : va_W → Prop}
theorem k_cc {st : List Value} (X : KX p s m args meth c cc nL Ts own D k A) (hW : KW D A s w H locs) (hp : w.Perm (wr ++ wc)) (hr : va_Run p l e R s m args below meth c H locs cells slots mc ms (F0 m pc ls st) rest (va_Qv (fun (_ : Unit) => True) (fun _ t => ∃ w1, P w1 ∧ kPost D k wc w1 H.size t) (va_A wc H.size) #[.ref b]) (va_A wc H.size))
    (kk : ∀ (w1 : va_W) (H1 : Heap) (locs1 : List Loc), P w1 → KW D A s (wr ++ w1) H1 locs1 → W p l e R s m args below meth c H1 locs1 (cells + mc) (slots + ms) Q (F0 m (pc + 3) ls rest)) : W p l e R s m args below meth c H locs cells slots Q (F0 m pc ls st) := by
  have hF := w_freeA hW.2.1 hp hW.2.2 X.hA
  refine va_callv hr hW.2.2 (fun q _ h => hF q h) hF (fun u t H1 locs1 ht hvm hw hB hz1 hk1 hS1 => ?_)
  obtain ⟨w1, hPw, hP1, -, hD1⟩ := hB
  rw [ht] at hP1
  obtain ⟨g1, g2⟩ := w_frame hW.1 hW.2.1 hp (List.Perm.refl _) hk1 hF hP1 hD1
  exact kk w1 H1 locs1 hPw ⟨g1, g2, hS1⟩
theorem kIv (X : KX p s m args meth c cc nL Ts own D k A) (hW : KW D A s w H locs) (hM : mC l y (wsY y cz nz none) dz mc ms D k [.ref b] wc P) (hY : yI y cz nz) (hlink : Cond.methodLink own index y ∈ GW) (hR : dz + 1 ≤ R.frames ∧ 8 + (nz + 11) + dz * 35 ≤ R.locals) (hp : w.Perm (wr ++ wc)) (hsz : ls.size = nL) (hroom : (rest.map fun v => v.category).sum ≤ 8) (hf : cells + mc ≤ R.cells ∧ slots + ms ≤ R.slots) (hdg : decode cc pc = .ok (.invokespecial index, 3))
    (kk : ∀ (w1 : va_W) (H1 : Heap) (locs1 : List Loc), P w1 → KW D A s (wr ++ w1) H1 locs1 → W p l e R s m args below meth c H1 locs1 (cells + mc) (slots + ms) Q (F0 m (pc + 3) ls rest)) : W p l e R s m args below meth c H locs cells slots Q (F0 m pc ls (.ref b :: rest)) := by
  obtain ⟨h1, h2, h4, h5, h6⟩ := hY
  exact k_cc X hW hp (va_runI (As := []) (rest := rest) ⟨X.hx, X.hb, X.hml, X.hown, X.hts⟩ (hM H.size) ⟨callB_of 0 X.hts (goodY X.hin h1) rfl rfl rfl (X.wd h4) (X.wd hlink) h6 hR, h5, X.wd h2⟩ ⟨k_blind, k_pre X hW hp _⟩ rfl rfl hsz rfl (lv_room hroom) hdg hf) kk
theorem kIN {host : String} (X : KX p s m args meth c cc nL Ts own D k A) (hW : KW D A s w H locs) (hM : mC l y (wsY y cz nz none) dz mc ms D k [.ref b] wc P) (hY : yI y cz nz) (hlink : Cond.methodLinkNest own index y host ∈ NWL) (hR : dz + 1 ≤ R.frames ∧ 8 + (nz + 11) + dz * 35 ≤ R.locals) (hp : w.Perm (wr ++ wc)) (hsz : ls.size = nL) (hroom : (rest.map fun v => v.category).sum ≤ 8) (hf : cells + mc ≤ R.cells ∧ slots + ms ≤ R.slots) (hdg : decode cc pc = .ok (.invokespecial index, 3))
    (kk : ∀ (w1 : va_W) (H1 : Heap) (locs1 : List Loc), P w1 → KW D A s (wr ++ w1) H1 locs1 → W p l e R s m args below meth c H1 locs1 (cells + mc) (slots + ms) Q (F0 m (pc + 3) ls rest)) : W p l e R s m args below meth c H locs cells slots Q (F0 m pc ls (.ref b :: rest)) := by
  obtain ⟨h1, h2, h4, h5, h6⟩ := hY
  exact k_cc X hW hp (va_runIN (As := []) (rest := rest) ⟨X.hx, X.hb, X.hml, X.hown, X.hts⟩ (hM H.size) ⟨va_cnB 0 X.hts (goodY X.hin h1) rfl rfl rfl (X.hG.1 _ hlink) (X.wd h4) h6 hR, h5, X.wd h2⟩ ⟨k_blind, k_pre X hW hp _⟩ rfl rfl hsz rfl (lv_room hroom) hdg hf) kk
end
