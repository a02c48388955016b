/-! Single cells out of the big world -/
theorem pull1 {w : va_W} {x : Nat × va_E} (h : x ∈ w) : ∃ wr : va_W, w.Perm (wr ++ [x]) := by
  obtain ⟨s, t, rfl⟩ := List.append_of_mem h
  exact ⟨s ++ t, List.perm_middle.trans (List.perm_append_singleton x (s ++ t)).symm⟩
theorem pullC {w rest c r y : va_W} (h : w.Perm (rest ++ c)) (h2 : c.Perm (r ++ y)) : ∃ wr : va_W, w.Perm (wr ++ y) :=
  ⟨rest ++ r, h.trans ((h2.append_left rest).trans (by rw [List.append_assoc]))⟩
theorem card_pullY {k : Nat → ClassId} {a : Nat → Nat} {u : CS} {j : Nat} (hj : j < 3) : ∃ r : va_W, (cardW k a u).Perm (r ++ [cO a u, cCa k a u, qC (a (7 + j)) (u (6 + j))]) := by
  rcases (by omega : j = 0 ∨ j = 1 ∨ j = 2) with rfl | rfl | rfl
  · exact ⟨[cSe k a u, cQs k a, cFl k a u, cHo k a u, cTa k a u, qC (a 8) (u 7), qC (a 9) (u 8)], w_idx (n := 10) [1, 2, 3, 5, 6, 8, 9, 0, 4, 7] rfl (by decide) rfl⟩
  · exact ⟨[cSe k a u, cQs k a, cFl k a u, cHo k a u, cTa k a u, qC (a 7) (u 6), qC (a 9) (u 8)], w_idx (n := 10) [1, 2, 3, 5, 6, 7, 9, 0, 4, 8] rfl (by decide) rfl⟩
  · exact ⟨[cSe k a u, cQs k a, cFl k a u, cHo k a u, cTa k a u, qC (a 7) (u 6), qC (a 8) (u 7)], w_idx (n := 10) [1, 2, 3, 5, 6, 7, 8, 0, 4, 9] rfl (by decide) rfl⟩
theorem card_memQ {k : Nat → ClassId} {a : Nat → Nat} {u : CS} {j : Nat} (hj : j < 3) : qC (a (7 + j)) (u (6 + j)) ∈ cardW k a u := by
  rcases (by omega : j = 0 ∨ j = 1 ∨ j = 2) with rfl | rfl | rfl
  · exact List.mem_of_getElem? (i := 7) rfl
  · exact List.mem_of_getElem? (i := 8) rfl
  · exact List.mem_of_getElem? (i := 9) rfl
section
variable {k : Nat → ClassId} {B : Nat → Nat} {A : Nat → Nat → Nat} {V : Nat → CS} {nx sz : Int32} {sv z g : Nat → Int32} {i j : Nat} {u u' : CS}
theorem big_memQ (hi : i < 11) (hj : j < 3) : qC (A i (7 + j)) (V i (6 + j)) ∈ bigW k B A V nx sz sv z g := List.mem_append_right _ (List.mem_flatMap.mpr ⟨i, r11_mem hi, card_memQ hj⟩)
theorem bigQ0 (hj : j < 3) : (bigW k B A V nx sz sv z g)[14 + j]? = some (A 0 (7 + j), .inr (3, qF (V 0 (6 + j)))) := by
  rcases (by omega : j = 0 ∨ j = 1 ∨ j = 2) with rfl | rfl | rfl <;> rfl
theorem bigQ1 (hj : j < 3) : (bigW k B A V nx sz sv z g)[24 + j]? = some (A 1 (7 + j), .inr (3, qF (V 1 (6 + j)))) := by
  rcases (by omega : j = 0 ∨ j = 1 ∨ j = 2) with rfl | rfl | rfl <;> rfl
theorem big_self (hi : i < 11) : ((hdW k B A nx sz sv z g ++ cdsW k A V (r11.erase i)) ++ cardW k (A i) (V i)).Perm (bigW k B A V nx sz sv z g) := (big_pull hi).symm
/-- the probe, whatever it holds -/
theorem big_out1 : (bigW k B A (setC V 1 u) nx sz sv z g).Perm ((hdW k B A nx sz sv z g ++ cdsW k A V (r11.erase 1)) ++ cardW k (A 1) u) := (big_push (by decide)).symm
theorem big_in1 : ((hdW k B A nx sz sv z g ++ cdsW k A V (r11.erase 1)) ++ cardW k (A 1) u).Perm (bigW k B A (setC V 1 u) nx sz sv z g) := big_push (by decide)
/-- the card, whatever it holds -/
theorem big_out0 : (bigW k B A (setC V 0 u) nx sz sv z g).Perm ((hdW k B A nx sz sv z g ++ cdsW k A V (r11.erase 0)) ++ cardW k (A 0) u) := (big_push (by decide)).symm
theorem big_in0 : ((hdW k B A nx sz sv z g ++ cdsW k A V (r11.erase 0)) ++ cardW k (A 0) u).Perm (bigW k B A (setC V 0 u) nx sz sv z g) := big_push (by decide)
/-- the card and the probe, when the probe was written -/
theorem big_0of1 : (bigW k B A (setC V 1 u) nx sz sv z g).Perm ((hdW k B A nx sz sv z g ++ cdsW k A (setC V 1 u) (r11.erase 0)) ++ cardW k (A 0) (V 0)) := by
  have h := big_pull (k := k) (B := B) (A := A) (V := setC V 1 u) (nx := nx) (sz := sz) (sv := sv) (z := z) (g := g) (i := 0) (by decide)
  rw [setC_n (show (0 : Nat) ≠ 1 by decide)] at h
  exact h
variable {p : Program} {s : State} {m : MethodId} {args : Array Value} {meth : Method} {c : Code} {H : Heap} {locs : List Loc} {cc : ByteArray} {nL : Nat} {Ts : List Cond} {own : String} {D : va_G} {P : Nat → Prop}
theorem big_rcvQ (X : KX p s m args meth c cc nL Ts own D k P) (hW : KW D P s (bigW k B A V nx sz sv z g) H locs) (hi : i < 11) (hj : j < 3) : ∃ cell : Cell, H[A i (7 + j)]? = some cell ∧ cell.vm.isStatics = false ∧ s.vm.findClass RX3 = some cell.cls := by
  obtain ⟨q0, h⟩ := List.mem_iff_getElem?.mp (big_memQ (k := k) (B := B) (A := A) (V := V) (nx := nx) (sz := sz) (sv := sv) (z := z) (g := g) hi hj)
  exact k_rcv X hW (ci := 3) rfl h
end
theorem isqj {x : Int32} (h : ¬ m_X4_isQueue_r x = 0) : ∃ j, j < 3 ∧ x = nI j := by
  rcases isq3 h with h | h | h
  · exact ⟨0, by decide, h⟩
  · exact ⟨1, by decide, h⟩
  · exact ⟨2, by decide, h⟩
theorem hfj {u : CS} {x : Int32} (hc : CM u) (h : ¬ m_X0_hasFrame_r u x = 0) : ∃ j, j < 400 ∧ j < cn u ∧ x = nI j := by
  obtain ⟨h1, h2⟩ := hf_n hc h
  have h3 := hc.2.1
  exact ⟨tn x, by omega, h2, h1⟩
theorem CM_X0_copyFrom {u v : CS} (h : CM v) : CM (m_X0_copyFrom_u u v) := by
  have h0 : m_X0_copyFrom_u u v 0 3 = nI (cn v) := rfl
  have h1 : m_X0_copyFrom_u u v 1 1 = v 1 1 := rfl
  have hc := h.2.1
  unfold CM cn
  rw [h0, h1, tn_of rfl (by omega)]
  exact ⟨rfl, hc, h.2.2⟩
theorem CM_X0_emptyLike {u v : CS} (h : CM v) : CM (m_X0_emptyLike_u u v) := by
  have h0 : m_X0_emptyLike_u u v 0 3 = nI 0 := rfl
  have h1 : m_X0_emptyLike_u u v 1 1 = v 1 1 := rfl
  unfold CM cn
  rw [h0, h1, tn_of rfl (by decide)]
  exact ⟨rfl, by decide, h.2.2⟩
