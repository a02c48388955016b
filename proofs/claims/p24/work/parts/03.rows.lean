/-! The rows: fields, arrays, calls, over one bundle of what stays (KX) and one of the world (KW) -/
section
variable {p : Program} {l : Launch} {e : Env} {R : Room} {s : State} {m : MethodId} {args : Array Value} {below : List Frame} {meth : Method} {c : Code} {H : Heap} {locs : List Loc} {cells slots : Nat} {Q : State → Prop} {cc : ByteArray} {nL : Nat} {Ts : List Cond} {own : String} {D : va_G} {k : Nat → ClassId} {A : Nat → Prop} {w w' : va_W} {pc : Nat} {ls : Array Slot} {rest : List Value} {a : Nat} {index : Nat}
theorem KX.hx (X : KX p s m args meth c cc nL Ts own D k A) : p.tables.exec = Jvm.exec := X.1
theorem KX.hb (X : KX p s m args meth c cc nL Ts own D k A) : c.code = cc := X.2.1
theorem KX.hml (X : KX p s m args meth c cc nL Ts own D k A) : c.maxLocals = nL := X.2.2.1
theorem KX.hown (X : KX p s m args meth c cc nL Ts own D k A) : s.vm.findClass own = some m.cls := X.2.2.2.1
theorem KX.hts (X : KX p s m args meth c cc nL Ts own D k A) : ∀ w ∈ Ts, w.before args s = true := X.2.2.2.2.1
theorem KX.hin (X : KX p s m args meth c cc nL Ts own D k A) : ∀ w ∈ GW, w ∈ Ts := X.2.2.2.2.2.1
theorem KX.hK (X : KX p s m args meth c cc nL Ts own D k A) : va_K D vwCl (tysG k) s := X.2.2.2.2.2.2.2.1
theorem KX.hG (X : KX p s m args meth c cc nL Ts own D k A) : GE A s := X.2.2.2.2.2.2.2.2.1
theorem KX.hA (X : KX p s m args meth c cc nL Ts own D k A) : ∀ q, s.heap.size ≤ q → A q := X.2.2.2.2.2.2.2.2.2
theorem KX.wd (X : KX p s m args meth c cc nL Ts own D k A) {q : Cond} (h : q ∈ GW) : q.before args s = true := X.hts q (X.hin q h)
theorem KX.nw (X : KX p s m args meth c cc nL Ts own D k A) {q : Cond} (h : q ∈ NWL) (ht : q.onTables = true) : q.before args s = true := (X.hG.1 q h).use ht
theorem k_get (X : KX p s m args meth c cc nL Ts own D k A) (hW : KW D A s w H locs) {C : String} {T : u_T} {N ci : Nat} (hg : ∀ q ∈ u_ws C T N, q ∈ GW) (hc : vwCl[ci]? = some (C, T, N)) (kf : Nat) (hk : kf < N) (hlink : Cond.fieldLink own index C (T kf).2.1 (T kf).2.2.1 ∈ GW) (hcl : (T kf).1 = C) (q0 : Nat) {fs : List Value} (he : w[q0]? = some (a, .inr (ci, fs))) {v : Value} (hv : fs[kf]? = some v) (hdg : decode cc pc = .ok (.getfield index, 3))
    (kk : W p l e R s m args below meth c H locs cells slots Q (F0 m (pc + 3) ls (v :: rest))) : W p l e R s m args below meth c H locs cells slots Q (F0 m pc ls (.ref a :: rest)) :=
  va_get X.hx X.hb X.hts (fun q h => X.hin q (hg q h)) X.hown X.hK hW.1 q0 he hc kf hk (X.wd hlink) (fun _ h => by rw [hcl] at h; exact h) hv hdg kk
theorem k_getN (X : KX p s m args meth c cc nL Ts own D k A) (hW : KW D A s w H locs) {C host : String} {T : u_T} {N ci : Nat} (hg : ∀ q ∈ u_ws C T N, q ∈ GW) (hc : vwCl[ci]? = some (C, T, N)) (kf : Nat) (hk : kf < N) (hlink : Cond.fieldLinkNest own index C (T kf).2.1 (T kf).2.2.1 host ∈ NWL) (hcl : (T kf).1 = C) (q0 : Nat) {fs : List Value} (he : w[q0]? = some (a, .inr (ci, fs))) {v : Value} (hv : fs[kf]? = some v) (hdg : decode cc pc = .ok (.getfield index, 3))
    (kk : W p l e R s m args below meth c H locs cells slots Q (F0 m (pc + 3) ls (v :: rest))) : W p l e R s m args below meth c H locs cells slots Q (F0 m pc ls (.ref a :: rest)) :=
  va_getN X.hx X.hb X.hts (fun q h => X.hin q (hg q h)) X.hown X.hK hW.1 q0 he hc kf hk (X.nw hlink rfl) (fun _ h => by rw [hcl] at h; exact h) hv hdg kk
theorem k_put (X : KX p s m args meth c cc nL Ts own D k A) (hW : KW D A s w H locs) {C : String} {T : u_T} {N ci : Nat} (hg : ∀ q ∈ u_ws C T N, q ∈ GW) (hc : vwCl[ci]? = some (C, T, N)) {ty0 : Nat → FieldType} (hty : ∀ j, j < N → parseFieldDescriptor (T j).2.2.1 = some (ty0 j)) (hnm : ∀ a, a < N → ∀ b, b < N → a ≠ b → (T a).2.1 ≠ (T b).2.1) (kf : Nat) (hk : kf < N) (hlink : Cond.fieldLink own index C (T kf).2.1 (T kf).2.2.1 ∈ GW) (hcl : (T kf).1 = C) (hfin : (T kf).2.2.2 = false) (q0 : Nat) {fs : List Value} (he : w[q0]? = some (a, .inr (ci, fs))) {v : Value} (hn : narrow (ty0 kf) v = v) (hfit : fits (ty0 kf) v = true) (hl : kf < fs.length) (hdg : decode cc pc = .ok (.putfield index, 3)) (hw' : w.set q0 (a, .inr (ci, fs.set kf v)) = w')
    (kk : ∀ (H1 : Heap) (locs1 : List Loc), KW D A s w' H1 locs1 → W p l e R s m args below meth c H1 locs1 cells slots Q (F0 m (pc + 3) ls rest)) : W p l e R s m args below meth c H locs cells slots Q (F0 m pc ls (v :: .ref a :: rest)) :=
  va_put X.hx X.hb X.hts (fun q h => X.hin q (hg q h)) ty0 hty hnm X.hown X.hK hW.1 hW.2.1 hW.2.2 q0 he hc kf hk (X.wd hlink) (fun _ h => by rw [hcl] at h; exact h) hfin (hty kf hk) hn hfit hl hdg (fun H1 locs1 h1 h2 h3 => kk H1 locs1 (by rw [hw'] at h1 h2; exact ⟨h1, h2, h3⟩))
theorem k_putN (X : KX p s m args meth c cc nL Ts own D k A) (hW : KW D A s w H locs) {C host : String} {T : u_T} {N ci : Nat} (hg : ∀ q ∈ u_ws C T N, q ∈ GW) (hc : vwCl[ci]? = some (C, T, N)) {ty0 : Nat → FieldType} (hty : ∀ j, j < N → parseFieldDescriptor (T j).2.2.1 = some (ty0 j)) (hnm : ∀ a, a < N → ∀ b, b < N → a ≠ b → (T a).2.1 ≠ (T b).2.1) (kf : Nat) (hk : kf < N) (hlink : Cond.fieldLinkNest own index C (T kf).2.1 (T kf).2.2.1 host ∈ NWL) (hcl : (T kf).1 = C) (hfin : (T kf).2.2.2 = false) (q0 : Nat) {fs : List Value} (he : w[q0]? = some (a, .inr (ci, fs))) {v : Value} (hn : narrow (ty0 kf) v = v) (hfit : fits (ty0 kf) v = true) (hl : kf < fs.length) (hdg : decode cc pc = .ok (.putfield index, 3)) (hw' : w.set q0 (a, .inr (ci, fs.set kf v)) = w')
    (kk : ∀ (H1 : Heap) (locs1 : List Loc), KW D A s w' H1 locs1 → W p l e R s m args below meth c H1 locs1 cells slots Q (F0 m (pc + 3) ls rest)) : W p l e R s m args below meth c H locs cells slots Q (F0 m pc ls (v :: .ref a :: rest)) :=
  va_putN X.hx X.hb X.hts (fun q h => X.hin q (hg q h)) ty0 hty hnm X.hown X.hK hW.1 hW.2.1 hW.2.2 q0 he hc kf hk (X.nw hlink rfl) (fun _ h => by rw [hcl] at h; exact h) hfin (hty kf hk) hn hfit hl hdg (fun H1 locs1 h1 h2 h3 => kk H1 locs1 (by rw [hw'] at h1 h2; exact ⟨h1, h2, h3⟩))
theorem k_in {i : Int32} {j n : Nat} (hi : i = nI j) (hj : j < n) (hn : n < 2 ^ 31) : vp_in i n ∧ i.toNatClampNeg = j := by
  subst hi; exact ⟨vp_in_nI hj hn, nI_clamp (by omega)⟩
theorem k_iald (X : KX p s m args meth c cc nL Ts own D k A) (hW : KW D A s w H locs) (q0 : Nat) {n : Nat} {f : Nat → Int32} (he : w[q0]? = some (a, .inl (k 0, n, .inl f))) {i v : Int32} {j : Nat} (hi : i = nI j) (hj : j < n) (hn : n < 2 ^ 31) (hv : f j = v) (hdg : decode cc pc = .ok (.iaload, 1))
    (kk : W p l e R s m args below meth c H locs cells slots Q (F0 m (pc + 1) ls (.int v :: rest))) : W p l e R s m args below meth c H locs cells slots Q (F0 m pc ls (.int i :: .ref a :: rest)) := by
  obtain ⟨h1, h2⟩ := k_in hi hj hn
  exact va_iald X.hx X.hb X.hK hW.1 q0 0 he rfl h1 hdg (by rw [h2, hv]; exact kk)
theorem k_cald (X : KX p s m args meth c cc nL Ts own D k A) (hW : KW D A s w H locs) (q0 : Nat) {n : Nat} {f : Nat → Int32} (he : w[q0]? = some (a, .inl (k 2, n, .inl f))) {i v : Int32} {j : Nat} (hi : i = nI j) (hj : j < n) (hn : n < 2 ^ 31) (hv : f j = v) (hdg : decode cc pc = .ok (.caload, 1))
    (kk : W p l e R s m args below meth c H locs cells slots Q (F0 m (pc + 1) ls (.int v :: rest))) : W p l e R s m args below meth c H locs cells slots Q (F0 m pc ls (.int i :: .ref a :: rest)) := by
  obtain ⟨h1, h2⟩ := k_in hi hj hn
  exact va_cald X.hx X.hb X.hK hW.1 q0 2 he rfl h1 hdg (by rw [h2, hv]; exact kk)
theorem k_zald (X : KX p s m args meth c cc nL Ts own D k A) (hW : KW D A s w H locs) (q0 : Nat) {n : Nat} {f : Nat → Int32} (he : w[q0]? = some (a, .inl (k 3, n, .inl f))) {i v : Int32} {j : Nat} (hi : i = nI j) (hj : j < n) (hn : n < 2 ^ 31) (hv : f j = v) (hdg : decode cc pc = .ok (.baload, 1))
    (kk : W p l e R s m args below meth c H locs cells slots Q (F0 m (pc + 1) ls (.int v :: rest))) : W p l e R s m args below meth c H locs cells slots Q (F0 m pc ls (.int i :: .ref a :: rest)) := by
  obtain ⟨h1, h2⟩ := k_in hi hj hn
  exact va_zald X.hx X.hb X.hK hW.1 q0 3 he rfl h1 hdg (by rw [h2, hv]; exact kk)
theorem k_aald (X : KX p s m args meth c cc nL Ts own D k A) (hW : KW D A s w H locs) (q0 t0 : Nat) {cA : ClassId} {C : String} {n : Nat} {f : Nat → Option Nat} (he : w[q0]? = some (a, .inl (cA, n, .inr (.inr (.inr (.inr f)))))) (ht : (tysG k)[t0]? = some (cA, .object C)) {i : Int32} {j b : Nat} (hi : i = nI j) (hj : j < n) (hn : n < 2 ^ 31) (hv : f j = some b) (hdg : decode cc pc = .ok (.aaload, 1))
    (kk : W p l e R s m args below meth c H locs cells slots Q (F0 m (pc + 1) ls (.ref b :: rest))) : W p l e R s m args below meth c H locs cells slots Q (F0 m pc ls (.int i :: .ref a :: rest)) := by
  obtain ⟨h1, h2⟩ := k_in hi hj hn
  exact va_aldq X.hx X.hb X.hK hW.1 q0 t0 he ht h1 hdg (by rw [h2, hv]; exact kk)
theorem k_iast (X : KX p s m args meth c cc nL Ts own D k A) (hW : KW D A s w H locs) (q0 : Nat) {n : Nat} {f : Nat → Int32} (he : w[q0]? = some (a, .inl (k 0, n, .inl f))) {i x : Int32} {j : Nat} (hi : i = nI j) (hj : j < n) (hn : n < 2 ^ 31) (hdg : decode cc pc = .ok (.iastore, 1)) (hw' : w.set q0 (a, .inl (k 0, n, .inl (upd f j x))) = w')
    (kk : ∀ (H1 : Heap) (locs1 : List Loc), KW D A s w' H1 locs1 → W p l e R s m args below meth c H1 locs1 cells slots Q (F0 m (pc + 1) ls rest)) : W p l e R s m args below meth c H locs cells slots Q (F0 m pc ls (.int x :: .int i :: .ref a :: rest)) := by
  obtain ⟨h1, h2⟩ := k_in hi hj hn
  exact va_iast X.hx X.hb X.hK hW.1 hW.2.1 hW.2.2 q0 0 he rfl h1 hdg (fun H1 locs1 g1 g2 g3 => kk H1 locs1 (by rw [h2, hw'] at g1 g2; exact ⟨g1, g2, g3⟩))
theorem k_cast (X : KX p s m args meth c cc nL Ts own D k A) (hW : KW D A s w H locs) (q0 : Nat) {n : Nat} {f : Nat → Int32} (he : w[q0]? = some (a, .inl (k 2, n, .inl f))) {i x x' : Int32} {j : Nat} (hi : i = nI j) (hj : j < n) (hn : n < 2 ^ 31) (hx : vp_nar .char x = x') (hdg : decode cc pc = .ok (.castore, 1)) (hw' : w.set q0 (a, .inl (k 2, n, .inl (upd f j x'))) = w')
    (kk : ∀ (H1 : Heap) (locs1 : List Loc), KW D A s w' H1 locs1 → W p l e R s m args below meth c H1 locs1 cells slots Q (F0 m (pc + 1) ls rest)) : W p l e R s m args below meth c H locs cells slots Q (F0 m pc ls (.int x :: .int i :: .ref a :: rest)) := by
  obtain ⟨h1, h2⟩ := k_in hi hj hn
  exact va_cast X.hx X.hb X.hK hW.1 hW.2.1 hW.2.2 q0 2 he rfl h1 hdg (fun H1 locs1 g1 g2 g3 => kk H1 locs1 (by rw [h2, hx, hw'] at g1 g2; exact ⟨g1, g2, g3⟩))
theorem k_zast (X : KX p s m args meth c cc nL Ts own D k A) (hW : KW D A s w H locs) (q0 : Nat) {n : Nat} {f : Nat → Int32} (he : w[q0]? = some (a, .inl (k 3, n, .inl f))) {i x x' : Int32} {j : Nat} (hi : i = nI j) (hj : j < n) (hn : n < 2 ^ 31) (hx : vp_nar .boolean x = x') (hdg : decode cc pc = .ok (.bastore, 1)) (hw' : w.set q0 (a, .inl (k 3, n, .inl (upd f j x'))) = w')
    (kk : ∀ (H1 : Heap) (locs1 : List Loc), KW D A s w' H1 locs1 → W p l e R s m args below meth c H1 locs1 cells slots Q (F0 m (pc + 1) ls rest)) : W p l e R s m args below meth c H locs cells slots Q (F0 m pc ls (.int x :: .int i :: .ref a :: rest)) := by
  obtain ⟨h1, h2⟩ := k_in hi hj hn
  exact va_zast X.hx X.hb X.hK hW.1 hW.2.1 hW.2.2 q0 3 he rfl h1 hdg (fun H1 locs1 g1 g2 g3 => kk H1 locs1 (by rw [h2, hx, hw'] at g1 g2; exact ⟨g1, g2, g3⟩))
theorem k_alen (X : KX p s m args meth c cc nL Ts own D k A) (hW : KW D A s w H locs) (q0 t0 : Nat) {cA : ClassId} {x : vp_A} (he : w[q0]? = some (a, .inl (cA, x))) {ty : FieldType} (ht : (tysG k)[t0]? = some (cA, ty)) {v : Int32} (hv : nI x.1 = v) (hdg : decode cc pc = .ok (.arraylength, 1))
    (kk : W p l e R s m args below meth c H locs cells slots Q (F0 m (pc + 1) ls (.int v :: rest))) : W p l e R s m args below meth c H locs cells slots Q (F0 m pc ls (.ref a :: rest)) :=
  va_alen X.hx X.hb X.hK hW.1 q0 t0 he ht hv hdg kk
theorem k_top {x y : Int32} (h : x = y) (kk : W p l e R s m args below meth c H locs cells slots Q (F0 m pc ls (.int y :: rest))) : W p l e R s m args below meth c H locs cells slots Q (F0 m pc ls (.int x :: rest)) := h ▸ kk
/-! a static array of four ints: its address, its length, its places -/
theorem k_gets (X : KX p s m args meth c cc nL Ts own D k A) (hW : KW D A s w H locs) (j : Nat) (hj : j < 3) (hlink : Cond.fieldLink own index RX4 (SN j) "[I" ∈ GW) (hdg : decode cc pc = .ok (.getstatic index, 3))
    (kk : ∀ t : Nat, va_T .int t 4 (fun i => .int (SVi j i)) A s s.heap → W p l e R s m args below meth c H locs cells slots Q (F0 m (pc + 3) ls (.ref t :: rest))) : W p l e R s m args below meth c H locs cells slots Q (F0 m pc ls rest) := by
  obtain ⟨t, hz, ht⟩ := X.hG.2.2.2 j hj
  exact va_gets X.hx X.hb hz hW.2.2 X.hown (X.wd hlink) (fun _ h => h) hdg (kk t ht)
theorem k_getsN (X : KX p s m args meth c cc nL Ts own D k A) (hW : KW D A s w H locs) {host : String} (j : Nat) (hj : j < 3) (hlink : Cond.fieldLinkNest own index RX4 (SN j) "[I" host ∈ NWL) (hdg : decode cc pc = .ok (.getstatic index, 3))
    (kk : ∀ t : Nat, va_T .int t 4 (fun i => .int (SVi j i)) A s s.heap → W p l e R s m args below meth c H locs cells slots Q (F0 m (pc + 3) ls (.ref t :: rest))) : W p l e R s m args below meth c H locs cells slots Q (F0 m pc ls rest) := by
  obtain ⟨t, hz, ht⟩ := X.hG.2.2.2 j hj
  exact va_getsN X.hx X.hb hz hW.2.2 X.hown (X.nw hlink rfl) (fun _ h => h) hdg (kk t ht)
theorem k_tld (X : KX p s m args meth c cc nL Ts own D k A) (hW : KW D A s w H locs) {t j : Nat} (hT : va_T .int t 4 (fun i => .int (SVi j i)) A s s.heap) {i v : Int32} {q : Nat} (hi : i = nI q) (hq : q < 4) (hv : SVi j q = v) (hdg : decode cc pc = .ok (.iaload, 1))
    (kk : W p l e R s m args below meth c H locs cells slots Q (F0 m (pc + 1) ls (.int v :: rest))) : W p l e R s m args below meth c H locs cells slots Q (F0 m pc ls (.int i :: .ref t :: rest)) := by
  obtain ⟨h1, h2⟩ := k_in hi hq (by decide)
  exact va_ti X.hx X.hb hT hW.2.2 h1 (v := .int v) (by simp only [h2, hv]) hdg kk
/-! calls -/
def kCall (p : Program) (l : Launch) (e : Env) (R : Room) (s : State) (m : MethodId) (args : Array Value) (below : List Frame) (meth : Method) (c : Code) (H : Heap) (locs : List Loc) (cells slots : Nat) (D : va_G) (k : Nat → ClassId) (pc : Nat) (ls : Array Slot) (st rest : List Value) (wc w1 : va_W) (r : Option Int32) : Prop :=
  match r with
  | some r => va_Run p l e R s m args below meth c H locs cells slots 0 0 (F0 m pc ls st) rest (va_Qi (fun (r' : Int32) (_ : Unit) => r' = r) (fun _ => kPost D k wc w1 H.size) (va_A wc H.size) #[]) (va_A wc H.size)
  | none => va_Run p l e R s m args below meth c H locs cells slots 0 0 (F0 m pc ls st) rest (va_Qv (fun (_ : Unit) => True) (fun _ => kPost D k wc w1 H.size) (va_A wc H.size) #[]) (va_A wc H.size)
theorem k_blind {D : va_G} {k : Nat → ClassId} {av : List Value} {w0 : va_W} {sz : Nat} : FrameBlind (va_Pc av (kPre D k w0 sz)) := fun a U g mk q => by
  obtain ⟨q0, q1, q2, q3, q4, q5⟩ := q
  exact ⟨q0, q1, q2, va_K.moved (u := U) (U := U.calling g mk a) (Vm.Alike.refl U.vm) q3, q4, q5.blind g mk a⟩
theorem k_pre {wc wr : va_W} (X : KX p s m args meth c cc nL Ts own D k A) (hW : KW D A s w H locs) (hp : w.Perm (wr ++ wc)) (av : List Value) : ∀ U : State, U.heap = H → s.WarmedH U.vm → va_Pc av (kPre D k wc H.size) av.toArray U := by
  intro U hU hwm
  have hP := wP_perm hp hW.1
  have hD := wD_iff.mp (wD_perm hp hW.2.1)
  have hPc : va_P D vwCl wc H := wP_iff.mpr fun q hq => wP_iff.mp hP q (List.mem_append_right _ hq)
  rw [List.map_append, List.nodup_append] at hD
  exact ⟨rfl, by rw [hU], by rw [hU]; exact hPc, va_K.moved hwm.alike X.hK, wD_iff.mpr ⟨hD.1.2.1, fun _ _ => trivial⟩, X.hG.step hwm (locs := locs) (by rw [hU]; exact hW.2.2) (w_freeA hW.2.1 hp hW.2.2 X.hA)⟩
theorem k_ci {wc w1 wr : va_W} {r : Int32} {st : List Value} (X : KX p s m args meth c cc nL Ts own D k A) (hW : KW D A s w H locs) (hp : w.Perm (wr ++ wc)) (hp' : (wr ++ w1).Perm w') (hr : kCall p l e R s m args below meth c H locs cells slots D k pc ls st rest wc w1 (some r))
    (kk : ∀ (H1 : Heap) (locs1 : List Loc), KW D A s w' H1 locs1 → W p l e R s m args below meth c H1 locs1 cells slots Q (F0 m (pc + 3) ls (.int r :: rest))) : W p l e R s m args below meth c H locs cells slots Q (F0 m pc ls st) := by
  have hF := w_freeA hW.2.1 hp hW.2.2 X.hA
  refine va_calli hr hW.2.2 (fun q _ h => hF q h) hF (fun r' u t H1 locs1 ht hvm hw hB hz1 hk1 hS1 => ?_)
  obtain ⟨hP1, -, hD1⟩ := hB
  rw [ht] at hP1
  obtain ⟨g1, g2⟩ := w_frame hW.1 hW.2.1 hp hp' hk1 hF hP1 hD1
  subst hw
  exact kk H1 locs1 ⟨g1, g2, hS1⟩
theorem k_cv {wc w1 wr : va_W} {st : List Value} (X : KX p s m args meth c cc nL Ts own D k A) (hW : KW D A s w H locs) (hp : w.Perm (wr ++ wc)) (hp' : (wr ++ w1).Perm w') (hr : kCall p l e R s m args below meth c H locs cells slots D k pc ls st rest wc w1 none)
    (kk : ∀ (H1 : Heap) (locs1 : List Loc), KW D A s w' H1 locs1 → W p l e R s m args below meth c H1 locs1 cells slots Q (F0 m (pc + 3) ls rest)) : W p l e R s m args below meth c H locs cells slots Q (F0 m pc ls st) := by
  have hF := w_freeA hW.2.1 hp hW.2.2 X.hA
  refine va_callv hr hW.2.2 (fun q _ h => hF q h) hF (fun u t H1 locs1 ht hvm hw hB hz1 hk1 hS1 => ?_)
  obtain ⟨hP1, -, hD1⟩ := hB
  rw [ht] at hP1
  obtain ⟨g1, g2⟩ := w_frame hW.1 hW.2.1 hp hp' hk1 hF hP1 hD1
  exact kk H1 locs1 ⟨g1, g2, hS1⟩
/-- the words of a method that stand in GW: its code, that it is an instance's, that it is what is selected, that its class is ready -/
def yV (y : MethodName) (cz : ByteArray) (nz : Nat) (rz : Option FieldType) (C : String) (n : Nat) : Prop := Cond.code y cz nz rz ∈ GW ∧ Cond.instanceMethod y ∈ GW ∧ Cond.selects C y y ∈ GW ∧ Cond.initialized C ∈ GW ∧ y.cls = C ∧ (y.cls ≠ "java/lang/invoke/MethodHandle" ∧ y.cls ≠ "java/lang/invoke/VarHandle" ∧ (parseMethodDescriptor y.desc).map (fun d => d.parameters.length) = some n)
def yS (y : MethodName) (cz : ByteArray) (nz : Nat) (rz : Option FieldType) (n : Nat) : Prop := Cond.code y cz nz rz ∈ GW ∧ Cond.static y ∈ GW ∧ Cond.initialized y.cls ∈ GW ∧ (y.cls ≠ "java/lang/invoke/MethodHandle" ∧ y.cls ≠ "java/lang/invoke/VarHandle" ∧ (parseMethodDescriptor y.desc).map (fun d => d.parameters.length) = some n)
variable {y : MethodName} {cz : ByteArray} {nz dz n : Nat} {rz : Option FieldType} {C : String} {wc w1 wr : va_W} {b : Nat} {As st : List Value} {r : Int32}
theorem k_cwB (X : KX p s m args meth c cc nL Ts own D k A) (hc : Cond.code y cz nz rz ∈ GW) (hi : Cond.initialized y.cls ∈ GW) (hd : y.cls ≠ "java/lang/invoke/MethodHandle" ∧ y.cls ≠ "java/lang/invoke/VarHandle" ∧ (parseMethodDescriptor y.desc).map (fun d => d.parameters.length) = some n) (hlink : Cond.methodLink own index y ∈ GW) (hR : dz + 1 ≤ R.frames ∧ 8 + (nz + 11) + dz * 35 ≤ R.locals) :
    CallB R s args own index y cz nz rz (wsY y cz nz rz) (rmD dz) 0 0 n := callB_of n X.hts (goodY X.hin hc) rfl rfl rfl (X.wd hi) (X.wd hlink) hd hR
theorem k_cwN {host : String} (X : KX p s m args meth c cc nL Ts own D k A) (hc : Cond.code y cz nz rz ∈ GW) (hi : Cond.initialized y.cls ∈ GW) (hd : y.cls ≠ "java/lang/invoke/MethodHandle" ∧ y.cls ≠ "java/lang/invoke/VarHandle" ∧ (parseMethodDescriptor y.desc).map (fun d => d.parameters.length) = some n) (hlink : Cond.methodLinkNest own index y host ∈ NWL) (hR : dz + 1 ≤ R.frames ∧ 8 + (nz + 11) + dz * 35 ≤ R.locals) :
    va_CN R s args own index y host cz nz rz (wsY y cz nz rz) (rmD dz) 0 0 n := va_cnB n X.hts (goodY X.hin hc) rfl rfl rfl (X.hG.1 _ hlink) (X.wd hi) hd hR
theorem k_rcv (X : KX p s m args meth c cc nL Ts own D k A) (hW : KW D A s w H locs) {ci q0 N : Nat} {T : u_T} {fs : List Value} (hc : vwCl[ci]? = some (C, T, N)) (he : w[q0]? = some (b, .inr (ci, fs))) : ∃ cell : Cell, H[b]? = some cell ∧ cell.vm.isStatics = false ∧ s.vm.findClass C = some cell.cls := va_recv X.hK hW.1 hc he
/-- an instance's method of the own class, an int comes back -/
theorem kVi (X : KX p s m args meth c cc nL Ts own D k A) (hW : KW D A s w H locs) (hM : mI l y (wsY y cz nz rz) dz D k (.ref b :: As) wc w1 r) (hY : yV y cz nz rz C n) (hlink : Cond.methodLink own index y ∈ GW) (hR : dz + 1 ≤ R.frames ∧ 8 + (nz + 11) + dz * 35 ≤ R.locals) (hp : w.Perm (wr ++ wc)) (hp' : (wr ++ w1).Perm w') (hrc : ∃ cell : Cell, H[b]? = some cell ∧ cell.vm.isStatics = false ∧ s.vm.findClass C = some cell.cls) (hn : As.length = n) (hsz : ls.size = nL) (hs : st = As.reverse ++ .ref b :: rest) (hroom : (rest.map fun v => v.category).sum ≤ 8) (hf : cells ≤ R.cells ∧ slots ≤ R.slots) (hdg : decode cc pc = .ok (.invokevirtual index, 3))
    (kk : ∀ (H1 : Heap) (locs1 : List Loc), KW D A s w' H1 locs1 → W p l e R s m args below meth c H1 locs1 cells slots Q (F0 m (pc + 3) ls (.int r :: rest))) : W p l e R s m args below meth c H locs cells slots Q (F0 m pc ls st) := by
  obtain ⟨h1, h2, h3, h4, rfl, h6⟩ := hY
  exact k_ci X hW hp hp' (va_runV (As := As) (rest := rest) ⟨X.hx, X.hb, X.hml, X.hown, X.hts⟩ (hM H.size) ⟨k_cwB X h1 h4 h6 hlink hR, X.wd h2, X.wd h3⟩ ⟨k_blind, hrc, k_pre X hW hp _⟩ rfl hn hsz hs (lv_room hroom) hdg hf) kk
theorem kVv (X : KX p s m args meth c cc nL Ts own D k A) (hW : KW D A s w H locs) (hM : mV l y (wsY y cz nz rz) dz D k (.ref b :: As) wc w1) (hY : yV y cz nz rz C n) (hlink : Cond.methodLink own index y ∈ GW) (hR : dz + 1 ≤ R.frames ∧ 8 + (nz + 11) + dz * 35 ≤ R.locals) (hp : w.Perm (wr ++ wc)) (hp' : (wr ++ w1).Perm w') (hrc : ∃ cell : Cell, H[b]? = some cell ∧ cell.vm.isStatics = false ∧ s.vm.findClass C = some cell.cls) (hn : As.length = n) (hsz : ls.size = nL) (hs : st = As.reverse ++ .ref b :: rest) (hroom : (rest.map fun v => v.category).sum ≤ 8) (hf : cells ≤ R.cells ∧ slots ≤ R.slots) (hdg : decode cc pc = .ok (.invokevirtual index, 3))
    (kk : ∀ (H1 : Heap) (locs1 : List Loc), KW D A s w' H1 locs1 → W p l e R s m args below meth c H1 locs1 cells slots Q (F0 m (pc + 3) ls rest)) : W p l e R s m args below meth c H locs cells slots Q (F0 m pc ls st) := by
  obtain ⟨h1, h2, h3, h4, rfl, h6⟩ := hY
  exact k_cv X hW hp hp' (va_runV (As := As) (rest := rest) ⟨X.hx, X.hb, X.hml, X.hown, X.hts⟩ (hM H.size) ⟨k_cwB X h1 h4 h6 hlink hR, X.wd h2, X.wd h3⟩ ⟨k_blind, hrc, k_pre X hW hp _⟩ rfl hn hsz hs (lv_room hroom) hdg hf) kk
theorem kNi {host : String} (X : KX p s m args meth c cc nL Ts own D k A) (hW : KW D A s w H locs) (hM : mI l y (wsY y cz nz rz) dz D k (.ref b :: As) wc w1 r) (hY : yV y cz nz rz C n) (hlink : Cond.methodLinkNest own index y host ∈ NWL) (hR : dz + 1 ≤ R.frames ∧ 8 + (nz + 11) + dz * 35 ≤ R.locals) (hp : w.Perm (wr ++ wc)) (hp' : (wr ++ w1).Perm w') (hrc : ∃ cell : Cell, H[b]? = some cell ∧ cell.vm.isStatics = false ∧ s.vm.findClass C = some cell.cls) (hn : As.length = n) (hsz : ls.size = nL) (hs : st = As.reverse ++ .ref b :: rest) (hroom : (rest.map fun v => v.category).sum ≤ 8) (hf : cells ≤ R.cells ∧ slots ≤ R.slots) (hdg : decode cc pc = .ok (.invokevirtual index, 3))
    (kk : ∀ (H1 : Heap) (locs1 : List Loc), KW D A s w' H1 locs1 → W p l e R s m args below meth c H1 locs1 cells slots Q (F0 m (pc + 3) ls (.int r :: rest))) : W p l e R s m args below meth c H locs cells slots Q (F0 m pc ls st) := by
  obtain ⟨h1, h2, h3, h4, rfl, h6⟩ := hY
  exact k_ci X hW hp hp' (va_runVN (As := As) (rest := rest) ⟨X.hx, X.hb, X.hml, X.hown, X.hts⟩ (hM H.size) ⟨k_cwN X h1 h4 h6 hlink hR, X.wd h2, X.wd h3⟩ ⟨k_blind, hrc, k_pre X hW hp _⟩ rfl hn hsz hs (lv_room hroom) hdg hf) kk
theorem kNv {host : String} (X : KX p s m args meth c cc nL Ts own D k A) (hW : KW D A s w H locs) (hM : mV l y (wsY y cz nz rz) dz D k (.ref b :: As) wc w1) (hY : yV y cz nz rz C n) (hlink : Cond.methodLinkNest own index y host ∈ NWL) (hR : dz + 1 ≤ R.frames ∧ 8 + (nz + 11) + dz * 35 ≤ R.locals) (hp : w.Perm (wr ++ wc)) (hp' : (wr ++ w1).Perm w') (hrc : ∃ cell : Cell, H[b]? = some cell ∧ cell.vm.isStatics = false ∧ s.vm.findClass C = some cell.cls) (hn : As.length = n) (hsz : ls.size = nL) (hs : st = As.reverse ++ .ref b :: rest) (hroom : (rest.map fun v => v.category).sum ≤ 8) (hf : cells ≤ R.cells ∧ slots ≤ R.slots) (hdg : decode cc pc = .ok (.invokevirtual index, 3))
    (kk : ∀ (H1 : Heap) (locs1 : List Loc), KW D A s w' H1 locs1 → W p l e R s m args below meth c H1 locs1 cells slots Q (F0 m (pc + 3) ls rest)) : W p l e R s m args below meth c H locs cells slots Q (F0 m pc ls st) := by
  obtain ⟨h1, h2, h3, h4, rfl, h6⟩ := hY
  exact k_cv X hW hp hp' (va_runVN (As := As) (rest := rest) ⟨X.hx, X.hb, X.hml, X.hown, X.hts⟩ (hM H.size) ⟨k_cwN X h1 h4 h6 hlink hR, X.wd h2, X.wd h3⟩ ⟨k_blind, hrc, k_pre X hW hp _⟩ rfl hn hsz hs (lv_room hroom) hdg hf) kk
/-- a static method (its contract speaks of no world), an int comes back -/
theorem kSi (X : KX p s m args meth c cc nL Ts own D k A) (hW : KW D A s w H locs) (hM : mI l y (wsY y cz nz rz) dz D k As [] [] r) (hY : yS y cz nz rz n) (hlink : Cond.methodLink own index y ∈ GW) (hR : dz + 1 ≤ R.frames ∧ 8 + (nz + 11) + dz * 35 ≤ R.locals) (hn : As.length = n) (hsz : ls.size = nL) (hs : st = As.reverse ++ rest) (hroom : (rest.map fun v => v.category).sum ≤ 8) (hf : cells ≤ R.cells ∧ slots ≤ R.slots) (hdg : decode cc pc = .ok (.invokestatic index, 3))
    (kk : ∀ (H1 : Heap) (locs1 : List Loc), KW D A s w H1 locs1 → W p l e R s m args below meth c H1 locs1 cells slots Q (F0 m (pc + 3) ls (.int r :: rest))) : W p l e R s m args below meth c H locs cells slots Q (F0 m pc ls st) := by
  obtain ⟨h1, h2, h4, h6⟩ := hY
  exact k_ci X hW (wr := w) (by simp) (by simp) (va_runS (As := As) (rest := rest) ⟨X.hx, X.hb, X.hml, X.hown, X.hts⟩ (hM H.size) ⟨k_cwB X h1 h4 h6 hlink hR, X.wd h2⟩ ⟨k_blind, k_pre X hW (wr := w) (by simp) _⟩ rfl hn hsz hs (lv_room hroom) hdg hf) kk
theorem kSNi {host : String} (X : KX p s m args meth c cc nL Ts own D k A) (hW : KW D A s w H locs) (hM : mI l y (wsY y cz nz rz) dz D k As [] [] r) (hY : yS y cz nz rz n) (hlink : Cond.methodLinkNest own index y host ∈ NWL) (hR : dz + 1 ≤ R.frames ∧ 8 + (nz + 11) + dz * 35 ≤ R.locals) (hn : As.length = n) (hsz : ls.size = nL) (hs : st = As.reverse ++ rest) (hroom : (rest.map fun v => v.category).sum ≤ 8) (hf : cells ≤ R.cells ∧ slots ≤ R.slots) (hdg : decode cc pc = .ok (.invokestatic index, 3))
    (kk : ∀ (H1 : Heap) (locs1 : List Loc), KW D A s w H1 locs1 → W p l e R s m args below meth c H1 locs1 cells slots Q (F0 m (pc + 3) ls (.int r :: rest))) : W p l e R s m args below meth c H locs cells slots Q (F0 m pc ls st) := by
  obtain ⟨h1, h2, h4, h6⟩ := hY
  exact k_ci X hW (wr := w) (by simp) (by simp) (va_runSN (As := As) (rest := rest) ⟨X.hx, X.hb, X.hml, X.hown, X.hts⟩ (hM H.size) ⟨k_cwN X h1 h4 h6 hlink hR, X.wd h2, trivial⟩ ⟨k_blind, k_pre X hW (wr := w) (by simp) _⟩ rfl hn hsz hs (lv_room hroom) hdg hf) kk
end
