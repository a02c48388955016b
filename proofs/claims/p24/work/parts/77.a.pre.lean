/-! isStep() of the law: it answers 1, and the two objects have the same card behind it, on which all is well -/
theorem pos1 {n : Nat} (h : n < 80) : ¬ nI (n + 1) ≤ 0 := Int32.not_le.mpr ((nI_ltI (a := 0) (by decide) (by omega)).mpr (by omega))
theorem k_subadd (a b : Int32) : a - b + b = a := by
  rw [Int32.sub_eq_add_neg]
  have e : a + -b + b = a + (b + -b) := by ac_rfl
  rw [e, Int32.add_right_neg]
  exact Int32.add_zero _
theorem would_w {u : CS} {n w : Nat} (hM : CM u) (h1 : 1 ≤ n) (h2 : n ≤ 99) (hw : w ≤ 3) : m_X4_would_r u u (nI n) (nI w) = wd_r u (lp_run n u) (nI w) := by
  have a1 : ¬ nI n < nI 1 := by rw [nI_ltI (by omega) (by decide)]; omega
  have a2 : ¬ nI 99 < nI n := by rw [nI_ltI (by decide) (by omega)]; omega
  have a3 : ¬ nI w < 0 := nI_pos (by omega)
  have a4 : nI w ≤ nI 3 := (nI_leI (by omega) (by decide)).mpr hw
  rw [m_X4_would_r, if_neg a1, if_neg a2, if_neg a3, if_pos a4, tn_of rfl (by omega), wd_same (would_run hM)]
theorem would_0 {u : CS} {n m : Nat} (hM : CM u) (h1 : 1 ≤ n) (h2 : n ≤ 99) (hm : tk3 (lp_run n u) = tk3 u + nI m) : m_X4_would_r u u (nI n) (nI 0) = nI m := by
  rw [would_w hM h1 h2 (by decide)]
  show m_X0_total_r (lp_run n u) (nI 7) - m_X0_total_r u (nI 7) = nI m
  rw [tot_tk, tot_tk, hm, k_addsub]
theorem would_1 {u : CS} {n : Nat} (hM : CM u) (h1 : 1 ≤ n) (h2 : n ≤ 99) : m_X4_would_r u u (nI n) (nI 1) + ctr u (nI 5) = ctr (lp_run n u) (nI 5) := by
  rw [would_w hM h1 h2 (by decide), ctr_5, ctr_5]
  show m_X0_total_r (lp_run n u) (nI 6) - m_X0_total_r u (nI 6) + m_X0_total_r u (nI 6) = _
  exact k_subadd _ _
/-- what the world of the two objects is behind a step -/
def PW (k : Nat → ClassId) (B : Nat → Nat) (A0 : Nat → Nat → Nat) (B2 : Nat → Nat) (A1 : Nat → Nat → Nat) (T C : Nat) (w : va_W) : Prop := ∃ (o q : OB) (u : CS) (S : Nat → CS) (sv : Nat → Int32), AT o u S sv ∧ AT q u S sv ∧ GD u S sv T C ∧ w = OW k B A0 o ++ OW k B2 A1 q
