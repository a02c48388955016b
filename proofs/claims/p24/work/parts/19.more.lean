def PD (z : Nat → Int32) : Prop := (z 1 = nI (tn (z 1)) ∧ tn (z 1) ≤ 80) ∧ (z 2 = nI (tn (z 2)) ∧ tn (z 2) ≤ 80)
theorem PD_u {z : Nat → Int32} {i : Nat} {x : Int32} (h : PD z) (h1 : i ≠ 1) (h2 : i ≠ 2) : PD (upd z i x) := by
  have e1 : upd z i x 1 = z 1 := by show (if 1 = i then x else z 1) = z 1; rw [if_neg (fun e => h1 e.symm)]
  have e2 : upd z i x 2 = z 2 := by show (if 2 = i then x else z 2) = z 2; rw [if_neg (fun e => h2 e.symm)]
  unfold PD
  rw [e1, e2]
  exact h
theorem PD_at {z : Nat → Int32} {n : Nat} (h : PD z) (hn : n ≤ 80) : PD (upd z 2 (nI n)) := by
  have e1 : upd z 2 (nI n) 1 = z 1 := rfl
  have e2 : upd z 2 (nI n) 2 = nI n := rfl
  unfold PD
  rw [e1, e2, tn_of rfl (by omega)]
  exact ⟨h.1, rfl, hn⟩
theorem PD_len {z : Nat → Int32} {n : Nat} (h : PD z) (hn : n ≤ 80) : PD (upd z 1 (nI n)) := by
  have e1 : upd z 1 (nI n) 1 = nI n := rfl
  have e2 : upd z 1 (nI n) 2 = z 2 := rfl
  unfold PD
  rw [e1, e2, tn_of rfl (by omega)]
  exact ⟨⟨rfl, hn⟩, h.2⟩
theorem lc_eq {x y : Int64} : lg_cmp x y = 0 ↔ x = y := by
  unfold lg_cmp; split
  · rename_i h; constructor
    · intro e; exact absurd e (by decide)
    · intro e; subst e; exact absurd h (by simp)
  · split
    · rename_i h; simp [h]
    · rename_i h; constructor
      · intro e; exact absurd e (by decide)
      · intro e; exact absurd e h
theorem lc_lt {x y : Int64} : lg_cmp x y < 0 ↔ x < y := by
  have h := lg_cmp_ge x y
  constructor
  · intro q
    exact Classical.byContradiction (fun n => by
      have := h.mpr (Int64.not_lt.mp n)
      rw [Int32.lt_iff_toInt_lt] at q
      rw [Int32.le_iff_toInt_le] at this
      omega)
  · intro q
    exact Classical.byContradiction (fun n => by
      have := h.mp (Int32.not_lt.mp n)
      rw [Int64.lt_iff_toInt_lt] at q
      rw [Int64.le_iff_toInt_le] at this
      omega)
theorem lc_le {x y : Int64} : lg_cmp x y ≤ 0 ↔ ¬ y < x := by
  unfold lg_cmp; split
  · rename_i h; exact ⟨fun e => absurd e (by decide), fun e => absurd h e⟩
  · rename_i h; split
    · exact ⟨fun _ => h, fun _ => by decide⟩
    · exact ⟨fun _ => h, fun _ => by decide⟩
theorem k_gel {x : Int32} (h : 0 ≤ x) : ¬ x < 0 := Int32.not_lt.mpr h
theorem k_ngel {x : Int32} (h : ¬ 0 ≤ x) : x < 0 := Int32.not_le.mp h
theorem k_gtl {x : Int32} (h : 0 < x) : ¬ x ≤ 0 := Int32.not_le.mpr h
theorem k_ngtl {x : Int32} (h : ¬ 0 < x) : x ≤ 0 := Int32.not_lt.mp h
