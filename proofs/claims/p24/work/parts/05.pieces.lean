/-! The pieces of the worlds, and small rows -/
abbrev qF (q : Nat → Int32) : List Value := [.int (q 0), .int (q 1), .int (q 2), .int (q 3), .int (q 4), .int (q 5), .int (q 6), .int (q 7), .int (q 8), .int (q 9), .int (q 10), .int (q 11), .int (q 12)]
abbrev qC (b : Nat) (q : Nat → Int32) : Nat × va_E := (b, .inr (3, qF q))
abbrev cO (a : Nat → Nat) (u : CS) : Nat × va_E := (a 0, .inr (0, [.ref (a 1), .ref (a 2), .int (u 0 2), .int (u 0 3), .ref (a 3), .ref (a 4), .ref (a 5), .ref (a 6)]))
abbrev cSe (k : Nat → ClassId) (a : Nat → Nat) (u : CS) : Nat × va_E := (a 1, .inl (k 0, 4, .inl (u 1)))
abbrev cQs (k : Nat → ClassId) (a : Nat → Nat) : Nat × va_E := (a 2, .inl (k 1, 3, .inr (.inr (.inr (.inr (fun j => some (a (7 + j))))))))
abbrev cFl (k : Nat → ClassId) (a : Nat → Nat) (u : CS) : Nat × va_E := (a 3, .inl (k 0, 400, .inl (u 2)))
abbrev cCa (k : Nat → ClassId) (a : Nat → Nat) (u : CS) : Nat × va_E := (a 4, .inl (k 0, 400, .inl (u 3)))
abbrev cHo (k : Nat → ClassId) (a : Nat → Nat) (u : CS) : Nat × va_E := (a 5, .inl (k 0, 400, .inl (u 4)))
abbrev cTa (k : Nat → ClassId) (a : Nat → Nat) (u : CS) : Nat × va_E := (a 6, .inl (k 0, 400, .inl (u 5)))
abbrev cardW (k : Nat → ClassId) (a : Nat → Nat) (u : CS) : va_W := [cO a u, cSe k a u, cQs k a, cFl k a u, cCa k a u, cHo k a u, cTa k a u, qC (a 7) (u 6), qC (a 8) (u 7), qC (a 9) (u 8)]
abbrev padW (k : Nat → ClassId) (o s : Nat) (z g : Nat → Int32) : va_W := [(o, .inr (2, [.ref s, .int (z 1), .int (z 2), .int (z 3), .int (z 4), .int (z 5), .int (z 6), .int (z 7), .int (z 8)])), (s, .inl (k 2, 80, .inl g))]
theorem k_inc (n : Nat) : nI n + Int32.ofInt 1 = nI (n + 1) := nI_1 n
theorem k_incx (x : Int32) : x + Int32.ofInt 1 = x + nI 1 := by rw [show Int32.ofInt 1 = nI 1 by decide +kernel]
theorem k_incn (n m : Nat) : nI n + Int32.ofInt (m : Int) = nI (n + m) := by
  rw [← nI_add]
  congr 1
theorem k_toInt_eq {x : Int32} {j : Nat} (hj : j < 2 ^ 31) : x.toInt = (j : Int) ↔ x = nI j := by
  rw [← nI_toInt hj]; exact ⟨fun h => Int32.toInt_inj.mp h, fun h => by rw [h]⟩
theorem k_sw {x : Int32} (n : Nat) (hn : n < 2 ^ 30) (h : ∀ j, j ≤ n → ¬ x = nI j) : x.toInt < 0 ∨ (n : Int) < x.toInt := by
  by_cases h0 : x.toInt < 0
  · exact Or.inl h0
  · refine Or.inr ?_
    rcases Int.lt_or_le (n : Int) x.toInt with q | q
    · exact q
    · have e : x.toInt = ((x.toInt.toNat : Nat) : Int) := by omega
      exact absurd ((k_toInt_eq (by omega)).mp e) (h _ (by omega))
theorem k_sw1 {x : Int32} (h0 : ¬ x = nI 0) (h1 : ¬ x = nI 1) : x.toInt < 0 ∨ (1 : Int) < x.toInt := k_sw 1 (by decide) (fun j hj => by rcases (by omega : j = 0 ∨ j = 1) with rfl | rfl <;> assumption)
theorem k_sw2 {x : Int32} (h0 : ¬ x = nI 0) (h1 : ¬ x = nI 1) (h2 : ¬ x = nI 2) : x.toInt < 0 ∨ (2 : Int) < x.toInt := k_sw 2 (by decide) (fun j hj => by rcases (by omega : j = 0 ∨ j = 1 ∨ j = 2) with rfl | rfl | rfl <;> assumption)
theorem k_sw3 {x : Int32} (h0 : ¬ x = nI 0) (h1 : ¬ x = nI 1) (h2 : ¬ x = nI 2) (h3 : ¬ x = nI 3) : x.toInt < 0 ∨ (3 : Int) < x.toInt := k_sw 3 (by decide) (fun j hj => by rcases (by omega : j = 0 ∨ j = 1 ∨ j = 2 ∨ j = 3) with rfl | rfl | rfl | rfl <;> assumption)
theorem k_sw12 {x : Int32} (h0 : ¬ x = nI 0) (h1 : ¬ x = nI 1) (h2 : ¬ x = nI 2) (h3 : ¬ x = nI 3) (h4 : ¬ x = nI 4) (h5 : ¬ x = nI 5) (h6 : ¬ x = nI 6) (h7 : ¬ x = nI 7) (h8 : ¬ x = nI 8) (h9 : ¬ x = nI 9) (h10 : ¬ x = nI 10) (h11 : ¬ x = nI 11) (h12 : ¬ x = nI 12) : x.toInt < 0 ∨ (12 : Int) < x.toInt :=
  k_sw 12 (by decide) (fun j hj => by rcases (by omega : j = 0 ∨ j = 1 ∨ j = 2 ∨ j = 3 ∨ j = 4 ∨ j = 5 ∨ j = 6 ∨ j = 7 ∨ j = 8 ∨ j = 9 ∨ j = 10 ∨ j = 11 ∨ j = 12) with rfl | rfl | rfl | rfl | rfl | rfl | rfl | rfl | rfl | rfl | rfl | rfl | rfl <;> assumption)
section
variable {p : Program} {l : Launch} {e : Env} {R : Room} {s : State} {m : MethodId} {args : Array Value} {below : List Frame} {meth : Method} {c : Code} {H : Heap} {locs : List Loc} {cells slots : Nat} {Q : State → Prop} {cc : ByteArray} {nL : Nat} {Ts : List Cond} {own : String} {D : va_G} {k : Nat → ClassId} {A : Nat → Prop} {w w' : va_W} {pc : Nat} {ls : Array Slot} {rest : List Value} {a : Nat} {index : Nat}
theorem k_copy (X : KX p s m args meth c cc nL Ts own D k A) (hW : KW D A s w H locs) (q0 q1 : Nat) {a0 n0 n1 : Nat} {f g : Nat → Int32} (he0 : w[q0]? = some (a0, .inl (k 0, n0, .inl f))) (he1 : w[q1]? = some (a, .inl (k 0, n1, .inl g))) {sp dp n : Int32} (hsp : sp = nI 0) (hdp : dp = nI 0) {N : Nat} (hn : n = nI N) (h4 : N ≤ n0) (h5 : N ≤ n1) (hl : ls.size = nL) (hsm : n0 < 2 ^ 31) (hR : 1 ≤ R.frames ∧ (rest.map fun v => v.category).sum + (nativeFrameWords "java/lang/System" "arraycopy" 5 + 11) ≤ R.locals) (hlink : Cond.methodLink own index arraycopyName ∈ GW) (hdg : decode cc pc = .ok (.invokestatic index, 3)) (hw' : w.set q1 (a, .inl (k 0, n1, .inl (va_cpy f g 0 0 N))) = w')
    (kk : ∀ (H1 : Heap) (locs1 : List Loc), KW D A s w' H1 locs1 → W p l e R s m args below meth c H1 locs1 cells slots Q (F0 m (pc + 3) ls rest)) : W p l e R s m args below meth c H locs cells slots Q (F0 m pc ls (.int n :: .int dp :: .ref a :: .int sp :: .ref a0 :: rest)) := by
  subst hsp; subst hdp; subst hn
  have e0 : (nI 0).toNatClampNeg = 0 := nI_clamp (by decide)
  have eN : (nI N).toNatClampNeg = N := nI_clamp (by omega)
  refine va_copyi X.hx X.hb (by rw [X.hml]; exact hl.symm) X.hown (X.wd hlink) (X.wd nat_copy) (X.wd st_copy) (X.wd ini_System) X.hK hW.1 hW.2.1 hW.2.2 q0 q1 0 0 he0 he1 rfl rfl rfl (nI_pos (by decide)) (nI_pos (by decide)) (nI_pos (by omega)) (by rw [e0, eN]; omega) (by rw [e0, eN]; omega) (fun i hi => rfl) hR.1 hR.2 hdg (fun H1 locs1 g1 g2 g3 => kk H1 locs1 ?_)
  rw [e0, eN, hw'] at g1 g2
  exact ⟨g1, g2, g3⟩
end
abbrev tn (x : Int32) : Nat := x.toNatClampNeg
abbrev cn (u : CS) : Nat := tn (u 0 3)
def BB (x : Int32) : Prop := x = nI 0 ∨ x = nI 1
theorem BB.nar {x : Int32} (h : BB x) : narrow .boolean (.int x) = .int x := by rcases h with rfl | rfl <;> rfl
theorem BB.fit {x : Int32} (h : BB x) : fits .boolean (.int x) = true := by rcases h with rfl | rfl <;> rfl
def CM (u : CS) : Prop := u 0 3 = nI (cn u) ∧ cn u ≤ 400 ∧ u 1 1 = nI (tn (u 1 1)) ∧ tn (u 1 1) ≤ 16
theorem tn_of {x : Int32} {n : Nat} (h : x = nI n) (hn : n < 2 ^ 31) : tn x = n := by rw [h]; exact nI_clamp hn
theorem tn_ge {x : Int32} (h : ¬ x < 0) : x = nI (tn x) := by
  obtain ⟨j, hj, rfl⟩ := nI_of h
  rw [tn_of rfl hj]
theorem k_neg {n : Nat} {x : Int32} (hn : n < 2 ^ 31) (hx : x < 0) : ¬ nI n = x := fun h => nI_pos hn (h ▸ hx)
theorem k_negR {n : Nat} {x : Int32} (hn : n < 2 ^ 31) (hx : x < 0) : ¬ x = nI n := fun h => nI_pos hn (h ▸ hx)
theorem tn_lt (x : Int32) : tn x < 2 ^ 31 := by
  have h1 := Int32.toInt_lt x
  show x.toInt.toNat < 2 ^ 31
  omega
theorem CM_of {u u' : CS} (h : CM u) (h0 : u' 0 = u 0) (h1 : u' 1 = u 1) : CM u' := by
  unfold CM cn at h ⊢
  rw [h0, h1]
  exact h
theorem CM_st0 {u : CS} {f : Nat → Int32} (h : CM u) (h3 : f 3 = u 0 3) : CM (st2 u 0 f) := by
  unfold CM cn at h ⊢
  have e0 : st2 u 0 f 0 = f := rfl
  have e1 : st2 u 0 f 1 = u 1 := rfl
  rw [e0, e1, h3]
  exact h
theorem CM_stc {u : CS} {f : Nat → Int32} {c : Nat} (h : CM u) (h0 : c ≠ 0) (h1 : c ≠ 1) : CM (st2 u c f) := by
  refine CM_of h ?_ ?_
  · show (if 0 = c then f else u 0) = u 0
    rw [if_neg (fun e => h0 e.symm)]
  · show (if 1 = c then f else u 1) = u 1
    rw [if_neg (fun e => h1 e.symm)]
theorem k_ge1 {x : Int32} (h : ¬ x < nI 1) : x = nI (tn x) := tn_ge (fun q => h (by
  rw [Int32.lt_iff_toInt_lt] at *
  have e := nI_toInt (n := 1) (by decide)
  have z : (0 : Int32).toInt = 0 := rfl
  omega))
theorem k_ltn {x : Int32} {n : Nat} (hn : n < 2 ^ 31) (h0 : ¬ x < 0) (h1 : x < nI n) : x = nI (tn x) ∧ tn x < n := by
  have e := tn_ge h0
  rw [e] at h1
  exact ⟨e, (nI_ltI (tn_lt x) hn).mp h1⟩
theorem k_len {x : Int32} {n : Nat} (hn : n < 2 ^ 31) (h0 : ¬ x < 0) (h1 : x ≤ nI n) : x = nI (tn x) ∧ tn x ≤ n := by
  have e := tn_ge h0
  rw [e] at h1
  exact ⟨e, (nI_leI (tn_lt x) hn).mp h1⟩
theorem k_mod3 {x : Int32} (h0 : ¬ x < 0) : x - x / nI 3 * nI 3 = nI 0 ∨ x - x / nI 3 * nI 3 = nI 1 ∨ x - x / nI 3 * nI 3 = nI 2 := by
  have e := tn_ge h0
  rw [e, pk_rem (tn_lt x) (by decide) (by decide)]
  rcases (by omega : tn x % 3 = 0 ∨ tn x % 3 = 1 ∨ tn x % 3 = 2) with h | h | h
  · exact Or.inl (by rw [h])
  · exact Or.inr (Or.inl (by rw [h]))
  · exact Or.inr (Or.inr (by rw [h]))
theorem nb_ite {P : Prop} [Decidable P] {a b : Int32} (ha : narrow .boolean (.int a) = .int a) (hb : narrow .boolean (.int b) = .int b) : narrow .boolean (.int (if P then a else b)) = .int (if P then a else b) := by
  split
  · exact ha
  · exact hb
