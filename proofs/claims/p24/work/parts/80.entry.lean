/-! The law's entry: what every row of the walk takes -/
theorem GW_sub {w : Cond} (h : w ∈ GW) : w ∈ lw_tbl := (List.mem_filter.mp h).1
theorem tb_lw {w : Cond} (i : Nat) (h : tables_1[i]? = some w) : w ∈ lw_tbl := List.mem_append_right _ (List.mem_of_getElem? h)
theorem lw_Kn {s : State} {args : Array Value} (hts : ∀ w ∈ lw_tbl, w.before args s = true) {C : String} {T : u_T} {N n : Nat} (hin : ∀ w ∈ u_ws C T N, w ∈ GW) (hi : Cond.instantiable C n ∈ GW) : ∃ (cC : ClassId) (iS : Nat → Nat), u_Kn s C T N cC iS :=
  u_known hts (fun w hw => GW_sub (hin w hw)) (hts _ (GW_sub hi))
theorem lw_arr {s : State} {args : Array Value} {ty : FieldType} (h : (Cond.arrayClass ty).before args s = true) : ∃ cA : ClassId, ArrOfT s cA ty ∧ s.vm.findClass ("[" ++ ty.toString) = some cA := by
  obtain ⟨c, k, comp, h1, h2, h3⟩ := Cond.arrayClass_spec h
  exact ⟨c, fun n z => ⟨fun k h => (by cases h), k, h2, comp, h3⟩, h1⟩
theorem lw_arq {s : State} {C : String} (h : va_AO C s) : ∃ cA : ClassId, ArrOfT s cA (.object C) ∧ va_RA s cA (.object C) := by
  obtain ⟨comp, c, k, h1, h2, h3, h4, h5⟩ := Cond.arrayOver_spec h
  exact ⟨c, fun n z => ⟨fun k h => (by cases h), k, h3, comp, h4⟩, k, comp, h3, h4, h1, h5⟩
theorem lw_nw {s : State} {args : Array Value} (hts : ∀ w ∈ lw_tbl, w.before args s = true) : ∀ w ∈ NWL, va_Nw w s := by
  intro w hw
  obtain ⟨h1, hn⟩ := List.mem_filter.mp hw
  have h := hts w (List.mem_append_right _ h1)
  cases w <;> first | (exact va_Nw.of rfl h) | (simp [k_nest] at hn; done)
theorem lw_st {s : State} {args : Array Value} {A : Nat → Prop} (hA : ∀ a : Nat, a < s.heap.size → ¬ A a) (j : Nat) (hl : (Cond.laysStatic RX4 (SN j) "[I").before args s = true) (hini : (Cond.initialized RX4).before args s = true)
    (harr : (Cond.arrayOf (.static RX4 (SN j) "[I") .int).before args s = true) (hlen : (Cond.eq (.length (.static RX4 (SN j) "[I")) (.int 4)).before args s = true)
    (h0 : (Cond.eq (.elem (.static RX4 (SN j) "[I") (.int 0)) (.int (SVi j 0))).before args s = true) (h1 : (Cond.eq (.elem (.static RX4 (SN j) "[I") (.int 1)) (.int (SVi j 1))).before args s = true)
    (h2 : (Cond.eq (.elem (.static RX4 (SN j) "[I") (.int 2)) (.int (SVi j 2))).before args s = true) (h3 : (Cond.eq (.elem (.static RX4 (SN j) "[I") (.int 3)) (.int (SVi j 3))).before args s = true) :
    ∃ t : Nat, va_Z RX4 (SN j) "[I" (.ref t) A s s.heap ∧ va_T .int t 4 (fun i => .int (SVi j i)) A s s.heap := by
  obtain ⟨t, ht, hT⟩ := va_Tof (A := A) (N := 4) (f := fun i => .int (SVi j i)) (by decide) harr (va_eqt hlen) (fun i hi => by
    rcases (by omega : i = 0 ∨ i = 1 ∨ i = 2 ∨ i = 3) with rfl | rfl | rfl | rfl
    · exact va_eqt h0
    · exact va_eqt h1
    · exact va_eqt h2
    · exact va_eqt h3) hA
  exact ⟨t, va_Zref hl hini ht hA, hT⟩
theorem lw_KX {p : Program} {s : State} {m : MethodId} {meth : Method} {c : Code} {b L : Nat} {xs : Nat → Int32} (C0 : lw_At p s m meth c b L xs) : ∃ (D : va_G) (k : Nat → ClassId), KX p s m #[Value.ref b] meth c code 5 lw_tbl RL D k (fun q => s.heap.size ≤ q) := by
  obtain ⟨hx, hb, hr, hml, hown, hts, hX, hbl, hlocks, hgv⟩ := C0
  have hnr := flat_of_before _ hgv
  have hA : ∀ a : Nat, a < s.heap.size → ¬ (fun q => s.heap.size ≤ q) a := fun a h => Nat.not_le.mpr h
  obtain ⟨c0, i0, k0⟩ := lw_Kn hts inG0 mk_X0
  obtain ⟨c1, i1, k1⟩ := lw_Kn hts inG1 mk_X1
  obtain ⟨c2, i2, k2⟩ := lw_Kn hts inG2 mk_X2
  obtain ⟨c3, i3, k3⟩ := lw_Kn hts inG3 mk_X3
  obtain ⟨c4, i4, k4⟩ := lw_Kn hts inG4 mk_X4
  obtain ⟨a0, e0, f0⟩ := lw_arr (hts _ (GW_sub ac_int))
  obtain ⟨a2, e2, f2⟩ := lw_arr (hts _ (GW_sub ac_char))
  obtain ⟨a3, e3, f3⟩ := lw_arr (hts _ (GW_sub ac_boolean))
  have o3 : va_AO RX3 s := va_AO.of (hts _ (tb_lw (w := .arrayOver (.object RX3)) 25 (by decide +kernel)))
  have o0 : va_AO RX0 s := va_AO.of (hts _ (tb_lw (w := .arrayOver (.object RX0)) 117 (by decide +kernel)))
  obtain ⟨a1, e1, f1⟩ := lw_arq o3
  obtain ⟨a4, e4, f4⟩ := lw_arq o0
  refine ⟨(fun j => match j with | 0 => c0 | 1 => c1 | 2 => c2 | 3 => c3 | _ => c4, fun j => match j with | 0 => i0 | 1 => i1 | 2 => i2 | 3 => i3 | _ => i4), (fun j => match j with | 0 => a0 | 1 => a1 | 2 => a2 | 3 => a3 | _ => a4), hx, hb, hml, hown, hts, fun w hw => GW_sub hw, hlocks, ⟨fun j q hq => ?_, fun j q hq => ?_⟩, ⟨lw_nw hts, o3, o0, fun j hj => ?_⟩, fun q h => h⟩
  · have hj : j < 5 := (List.getElem?_eq_some_iff.mp hq).1
    rcases (by omega : j = 0 ∨ j = 1 ∨ j = 2 ∨ j = 3 ∨ j = 4) with rfl | rfl | rfl | rfl | rfl <;> cases hq <;> assumption
  · have hj : j < 5 := (List.getElem?_eq_some_iff.mp hq).1
    rcases (by omega : j = 0 ∨ j = 1 ∨ j = 2 ∨ j = 3 ∨ j = 4) with rfl | rfl | rfl | rfl | rfl <;> cases hq
    · exact ⟨e0, f0⟩
    · exact ⟨e1, f1⟩
    · exact ⟨e2, f2⟩
    · exact ⟨e3, f3⟩
    · exact ⟨e4, f4⟩
  · have hini : (Cond.initialized RX4).before #[Value.ref b] s = true := hts _ (tb_lw 1 (by decide +kernel))
    rcases (by omega : j = 0 ∨ j = 1 ∨ j = 2) with rfl | rfl | rfl
    · exact lw_st hA 0 (hts _ (tb_lw 250 (by decide +kernel))) hini (hnr _ (by decide +kernel)) (hnr _ (by decide +kernel)) (hnr _ (by decide +kernel)) (hnr _ (by decide +kernel)) (hnr _ (by decide +kernel)) (hnr _ (by decide +kernel))
    · exact lw_st hA 1 (hts _ (tb_lw 252 (by decide +kernel))) hini (hnr _ (by decide +kernel)) (hnr _ (by decide +kernel)) (hnr _ (by decide +kernel)) (hnr _ (by decide +kernel)) (hnr _ (by decide +kernel)) (hnr _ (by decide +kernel))
    · exact lw_st hA 2 (hts _ (tb_lw 23 (by decide +kernel))) hini (hnr _ (by decide +kernel)) (hnr _ (by decide +kernel)) (hnr _ (by decide +kernel)) (hnr _ (by decide +kernel)) (hnr _ (by decide +kernel)) (hnr _ (by decide +kernel))
