section
variable {p : Program} {l : Launch} {e : Env} {R : Room} {s : State} {m : MethodId} {args : Array Value} {below : List Frame} {meth : Method} {c : Code} {H : Heap} {locs : List Loc} {cells slots : Nat} {Q : State → Prop} {cc : ByteArray} {nL : Nat} {Ts : List Cond} {own : String} {D : va_G} {k : Nat → ClassId} {A : Nat → Prop} {w w' : va_W} {pc : Nat} {ls : Array Slot} {rest : List Value} {a : Nat} {index : Nat}
/-- the four values of a static array, copied to an array of four of the world -/
theorem k_copyT (X : KX p s m args meth c cc nL Ts own D k A) (hW : KW D A s w H locs) {t j : Nat} (hT : va_T .int t 4 (fun i => .int (SVi j i)) A s s.heap) (q1 : Nat) {g : Nat → Int32} (he1 : w[q1]? = some (a, .inl (k 0, 4, .inl g))) (hl : ls.size = nL) (hR : 1 ≤ R.frames ∧ (rest.map fun v => v.category).sum + (nativeFrameWords "java/lang/System" "arraycopy" 5 + 11) ≤ R.locals) (hlink : Cond.methodLink own index arraycopyName ∈ GW) (hdg : decode cc pc = .ok (.invokestatic index, 3)) (hw' : w.set q1 (a, .inl (k 0, 4, .inl (va_cpy (SVi j) g 0 0 4))) = w')
    (kk : ∀ (H1 : Heap) (locs1 : List Loc), KW D A s w' H1 locs1 → W p l e R s m args below meth c H1 locs1 cells slots Q (F0 m (pc + 3) ls rest)) : W p l e R s m args below meth c H locs cells slots Q (F0 m pc ls (.int (nI 4) :: .int (nI 0) :: .ref a :: .int (nI 0) :: .ref t :: rest)) := by
  subst hw'
  have e0 : (nI 0).toNatClampNeg = 0 := nI_clamp (by decide)
  have e4 : (nI 4).toNatClampNeg = 4 := nI_clamp (by decide)
  have i0 : (nI 0).toInt = 0 := by decide +kernel
  have i4 : (nI 4).toInt = 4 := by decide +kernel
  intro T hTH Y
  obtain ⟨scr, s1, ⟨s2, k0, hk0, cm0, hkk0⟩, s3, s4, -, s6, s7⟩ := hT
  have hc0 : H[t]? = some scr := by rw [hW.2.2.2.1 t (Array.getElem?_eq_some_iff.mp s1).1 s7]; exact s1
  have hc1 : H[a]? = some (vp_cell (k 0) (4, .inl g)) := hW.1 q1 _ he1
  obtain ⟨-, k1, hk1, cm1, hkk1⟩ := (X.hK.2 0 _ rfl).1 4 (fun j => .int (g j))
  obtain ⟨vm', Y', step⟩ := Y.arraycopy X.hx X.hown (X.wd hlink) (X.wd nat_copy) (X.wd st_copy) (X.wd ini_System) (src := t) (dst := a) (cs := scr) (cd := vp_cell (k 0) (4, .inl g)) (srcPos := nI 0) (destPos := nI 0) (n := nI 4) (by rw [hTH]; exact hc0) (by rw [hTH]; exact hc1)
    s2 (fun _ h => by cases h) s3 (fun h => by cases h) hk0 hk1 hkk0 hkk1 (by simp [refKind]) (nI_pos (by decide)) (nI_pos (by decide)) (nI_pos (by decide))
    (by rw [i0, i4]; omega) (by rw [i0, i4]; show ¬ _ > ((arrV (k 0) 4 (fun j => .int (g j))).slots.size : Int); rw [arrV_size]; decide)
    (fun vm₁ _ i hi => by
      rw [e4] at hi
      have e : scr.slots.getD ((nI 0).toNatClampNeg + i) .null = .int (SVi j i) := by
        rw [e0, Nat.zero_add, Array.getD_eq_getD_getElem?, s6 _ hi]
        rfl
      rw [e]
      exact ⟨rfl, trivial⟩)
    (g := F0 m pc ls (.int (nI 4) :: .int (nI 0) :: .ref a :: .int (nI 0) :: .ref t :: rest)) rfl (by rw [X.hml]; exact hl) (rest := rest) rfl (by rw [X.hb]; exact hdg) hR.1 (by show 2 * 0 + _ + _ ≤ _; have := hR.2; omega)
  have e1 : copied scr (vp_cell (k 0) (4, .inl g)) (nI 0) (nI 0) (nI 4) = vp_cell (k 0) (4, .inl (va_cpy (SVi j) g 0 0 4)) := by
    have h := va_copiedX (fun z => Value.int z) scr (k 0) (n0 := 4) (n1 := 4) (sp := 0) (dp := 0) (n := 4) (SVi j) g s6 (by decide)
    rw [copied, e0, e4]
    exact h
  rw [e1] at Y' step
  have hlt : a < H.size := (Array.getElem?_eq_some_iff.mp hc1).1
  have hheap : ((T.setVm vm').setCell a (vp_cell (k 0) (4, .inl (va_cpy (SVi j) g 0 0 4)))).heap = H.setIfInBounds a (vp_cell (k 0) (4, .inl (va_cpy (SVi j) g 0 0 4))) := by rw [← hTH]; rfl
  have oq : ∀ q : Nat, q ≠ a → (H.setIfInBounds a (vp_cell (k 0) (4, .inl (va_cpy (SVi j) g 0 0 4))))[q]? = H[q]? := fun q hq => by simp [Array.getElem?_setIfInBounds, Ne.symm hq]
  have hAa : A a := hW.2.1.2 q1 _ he1
  obtain ⟨t1, a1, b1⟩ := kk _ _ ⟨hW.1.set hW.2.1 he1 (show (H.setIfInBounds a _)[a]? = some _ by simp [Array.getElem?_setIfInBounds, hlt]) oq, hW.2.1.set he1, by simp; exact hW.2.2.1, fun q g1 g2 => by rw [oq q (fun e => g2 (e ▸ hAa))]; exact hW.2.2.2.1 q g1 g2, fun q hq => by
      rcases List.mem_append.mp hq with h | h
      · exact hW.2.2.2.2 q h
      · obtain ⟨z, -, rfl⟩ := List.mem_map.mp h
        exact hAa⟩ _ hheap Y'
  exact ⟨t1, step t1 a1, b1⟩
/-- an object of the world into an array of the world -/
theorem k_aast (X : KX p s m args meth c cc nL Ts own D k A) (hW : KW D A s w H locs) (q0 t0 qk ci : Nat) {r : vw_C} {n v : Nat} {vs : List Value} {f : Nat → Option Nat} (ha : w[q0]? = some (a, .inl (k t0, n, .inr (.inr (.inr (.inr f)))))) (ht : (tysG k)[t0]? = some (k t0, .object r.1)) (hv : w[qk]? = some (v, .inr (ci, vs))) (hc : vwCl[ci]? = some r) {i : Int32} {j : Nat} (hi : i = nI j) (hj : j < n) (hn : n < 2 ^ 31) (hdg : decode cc pc = .ok (.aastore, 1)) (hw' : w.set q0 (a, .inl (k t0, n, .inr (.inr (.inr (.inr (va_up f j (some v))))))) = w')
    (kk : ∀ (H1 : Heap) (locs1 : List Loc), KW D A s w' H1 locs1 → W p l e R s m args below meth c H1 locs1 cells slots Q (F0 m (pc + 1) ls rest)) : W p l e R s m args below meth c H locs cells slots Q (F0 m pc ls (.ref v :: .int i :: .ref a :: rest)) := by
  obtain ⟨h1, h2⟩ := k_in hi hj hn
  refine va_astq X.hx X.hb X.hK hW.1 hW.2.1 hW.2.2 q0 t0 qk ci ha ht hv hc h1 hdg (fun H1 locs1 g1 g2 g3 => kk H1 locs1 ?_)
  rw [h2, hw'] at g1 g2
  exact ⟨g1, g2, g3⟩
end
theorem arr_same {cA : ClassId} {n : Nat} {f g : Nat → Value} (h : ∀ j, j < n → f j = g j) : arrV cA n f = arrV cA n g := by
  unfold arrV
  congr 1
  congr 1
  funext j
  exact h j.1 j.2
/-- two arrays of objects that agree in their places are one cell -/
theorem KW.arq {D : va_G} {A : Nat → Prop} {s : State} {w w' : va_W} {H : Heap} {locs : List Loc} (h : KW D A s w H locs) (q0 : Nat) {a : Nat} {cA : ClassId} {n : Nat} {f g : Nat → Option Nat} (he : w[q0]? = some (a, .inl (cA, n, .inr (.inr (.inr (.inr f)))))) (hfg : ∀ j, j < n → f j = g j) (hw : w.set q0 (a, .inl (cA, n, .inr (.inr (.inr (.inr g))))) = w') : KW D A s w' H locs := by
  subst hw
  have e : vp_cell cA (n, .inr (.inr (.inr (.inr f)))) = vp_cell cA (n, .inr (.inr (.inr (.inr g)))) := by
    rw [vp_cell, vp_cell]
    exact arr_same (fun j hj => by rw [hfg j hj])
  exact ⟨h.1.set h.2.1 he (show H[a]? = some (vp_cell cA _) by rw [← e]; exact h.1 q0 _ he) (fun _ _ => rfl), h.2.1.set he, h.2.2⟩
