/-! The big world: one card or two of it, handed to a call and taken back -/
def setC (V : Nat → CS) (i : Nat) (u : CS) : Nat → CS := fun j => if j = i then u else V j
theorem setC_i (V : Nat → CS) (i : Nat) (u : CS) : setC V i u i = u := if_pos rfl
theorem setC_n {V : Nat → CS} {i j : Nat} {u : CS} (h : j ≠ i) : setC V i u j = V j := if_neg h
abbrev r11 : List Nat := List.range 11
theorem cds_pull {k : Nat → ClassId} {A : Nat → Nat → Nat} {V : Nat → CS} {is : List Nat} {i : Nat} (hi : i ∈ is) : (cdsW k A V is).Perm (cdsW k A V (is.erase i) ++ cardW k (A i) (V i)) := by
  have h := (List.perm_cons_erase hi).flatMap_right (fun i => cardW k (A i) (V i))
  rw [List.flatMap_cons] at h
  exact h.trans List.perm_append_comm
theorem cds_out {k : Nat → ClassId} {A : Nat → Nat → Nat} {V : Nat → CS} {u : CS} {i : Nat} : ∀ {is : List Nat}, i ∉ is → cdsW k A (setC V i u) is = cdsW k A V is
  | [], _ => rfl
  | j :: is, h => by
    have h1 : j ≠ i := fun e => h (e ▸ List.mem_cons_self)
    have h2 : i ∉ is := fun e => h (List.mem_cons_of_mem _ e)
    have h3 := cds_out (k := k) (A := A) (V := V) (u := u) h2
    show cardW k (A j) (setC V i u j) ++ cdsW k A (setC V i u) is = cardW k (A j) (V j) ++ cdsW k A V is
    rw [h3, setC_n h1]
theorem r11_out {i : Nat} : i ∉ r11.erase i := fun h => ((List.nodup_range (n := 11)).mem_erase_iff.mp h).1 rfl
theorem r11_mem {i : Nat} (hi : i < 11) : i ∈ r11 := List.mem_range.mpr hi
section
variable {k : Nat → ClassId} {B : Nat → Nat} {A : Nat → Nat → Nat} {V : Nat → CS} {nx sz : Int32} {sv z g : Nat → Int32} {i j : Nat} {u : CS}
theorem big_pull (hi : i < 11) : (bigW k B A V nx sz sv z g).Perm ((hdW k B A nx sz sv z g ++ cdsW k A V (r11.erase i)) ++ cardW k (A i) (V i)) := by
  have h := (cds_pull (k := k) (A := A) (V := V) (r11_mem hi)).append_left (hdW k B A nx sz sv z g)
  rw [← List.append_assoc] at h
  exact h
theorem big_push (hi : i < 11) : ((hdW k B A nx sz sv z g ++ cdsW k A V (r11.erase i)) ++ cardW k (A i) u).Perm (bigW k B A (setC V i u) nx sz sv z g) := by
  have h := big_pull (k := k) (B := B) (A := A) (V := setC V i u) (nx := nx) (sz := sz) (sv := sv) (z := z) (g := g) hi
  rw [cds_out r11_out, setC_i] at h
  exact h.symm
theorem big_pull2 (hi : i < 11) (hj : j < 11) (hij : i ≠ j) : (bigW k B A V nx sz sv z g).Perm ((hdW k B A nx sz sv z g ++ cdsW k A V ((r11.erase j).erase i)) ++ (cardW k (A i) (V i) ++ cardW k (A j) (V j))) := by
  have hm : i ∈ r11.erase j := (List.nodup_range (n := 11)).mem_erase_iff.mpr ⟨hij, r11_mem hi⟩
  have h1 := big_pull (k := k) (B := B) (A := A) (V := V) (nx := nx) (sz := sz) (sv := sv) (z := z) (g := g) hj
  have h2 := (((cds_pull (k := k) (A := A) (V := V) hm).append_left (hdW k B A nx sz sv z g)).append_right (cardW k (A j) (V j)))
  have h3 := h1.trans h2
  rw [← List.append_assoc, List.append_assoc (_ ++ _)] at h3
  exact h3
theorem big_push2 (hi : i < 11) (hj : j < 11) (hij : i ≠ j) : ((hdW k B A nx sz sv z g ++ cdsW k A V ((r11.erase j).erase i)) ++ (cardW k (A i) u ++ cardW k (A j) (V j))).Perm (bigW k B A (setC V i u) nx sz sv z g) := by
  have h := big_pull2 (k := k) (B := B) (A := A) (V := setC V i u) (nx := nx) (sz := sz) (sv := sv) (z := z) (g := g) hi hj hij
  have ho : i ∉ (r11.erase j).erase i := fun h => (((List.nodup_range (n := 11)).erase j).mem_erase_iff.mp h).1 rfl
  rw [cds_out ho, setC_i, setC_n (Ne.symm hij)] at h
  exact h.symm
theorem big_mem (hi : i < 11) : cO (A i) (V i) ∈ bigW k B A V nx sz sv z g := List.mem_append_right _ (List.mem_flatMap.mpr ⟨i, r11_mem hi, List.mem_cons_self⟩)
variable {p : Program} {s : State} {m : MethodId} {args : Array Value} {meth : Method} {c : Code} {H : Heap} {locs : List Loc} {cc : ByteArray} {nL : Nat} {Ts : List Cond} {own : String} {D : va_G} {P : Nat → Prop}
theorem big_rcv (X : KX p s m args meth c cc nL Ts own D k P) (hW : KW D P s (bigW k B A V nx sz sv z g) H locs) (hi : i < 11) : ∃ cell : Cell, H[A i 0]? = some cell ∧ cell.vm.isStatics = false ∧ s.vm.findClass RX0 = some cell.cls := by
  obtain ⟨q0, h⟩ := List.mem_iff_getElem?.mp (big_mem (k := k) (B := B) (A := A) (V := V) (nx := nx) (sz := sz) (sv := sv) (z := z) (g := g) hi)
  exact k_rcv X hW (ci := 0) rfl h
end
section
variable {k : Nat → ClassId} {B : Nat → Nat} {A : Nat → Nat → Nat} {V : Nat → CS} {nx sz : Int32} {sv z g z' g' : Nat → Int32}
abbrev hd5W (k : Nat → ClassId) (B : Nat → Nat) (A : Nat → Nat → Nat) (nx sz : Int32) (sv : Nat → Int32) : va_W := [(B 0, .inr (4, [.ref (A 0 0), .ref (A 1 0), .ref (B 1), .ref (B 2), .ref (B 3), .ref (B 5)])), arqC k (B 1) 2 (fun j => some (A (2 + j) 0)), (B 2, .inl (k 3, 2, .inl sv)), hisO (B 3) (B 4) nx sz, arqC k (B 4) 7 (fun j => some (A (4 + j) 0))]
theorem big_pullP : (bigW k B A V nx sz sv z g).Perm ((hd5W k B A nx sz sv ++ cdsW k A V r11) ++ padW k (B 5) (B 6) z g) := by
  show ((hd5W k B A nx sz sv ++ padW k (B 5) (B 6) z g) ++ cdsW k A V r11).Perm _
  rw [List.append_assoc, List.append_assoc]
  exact List.perm_append_comm.append_left _
theorem big_pushP : ((hd5W k B A nx sz sv ++ cdsW k A V r11) ++ padW k (B 5) (B 6) z' g').Perm (bigW k B A V nx sz sv z' g') := big_pullP.symm
end
