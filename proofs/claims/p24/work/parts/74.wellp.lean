/-! What isWell() asks, without the machine -/
theorem ctr_1 (u : CS) : ctr u (nI 1) = u 0 3 := rfl
theorem ctr_0 (u : CS) : ctr u (nI 0) = u 0 2 := rfl
theorem ctr_2 (u : CS) : ctr u (nI 2) = m_X0_total_r u (nI 3) := rfl
theorem ctr_3 (u : CS) : ctr u (nI 3) = m_X0_total_r u (nI 7) := rfl
theorem ctr_4 (u : CS) : ctr u (nI 4) = m_X0_total_r u (nI 8) := rfl
theorem ctr_5 (u : CS) : ctr u (nI 5) = m_X0_total_r u (nI 6) := rfl
theorem ctr_s {u : CS} {j : Nat} (hj : j < 4) : ctr u (nI (7 + j)) = u 1 j := by
  rcases (by omega : j = 0 ∨ j = 1 ∨ j = 2 ∨ j = 3) with rfl | rfl | rfl | rfl <;> rfl
theorem of_r {u : CS} {q : Nat} {w : Int32} (hq : q < 3) : m_X4_of_r u (nI q) w = m_X3_fact_r (u (6 + q)) w := by
  unfold m_X4_of_r
  rw [if_neg (isq_t hq), tn_of rfl (by omega)]
theorem sm_r {u : CS} {w : Int32} : sm u w = m_X3_fact_r (u 6) w + m_X3_fact_r (u 7) w + m_X3_fact_r (u 8) w := by
  unfold sm
  rw [of_r (by decide), of_r (by decide), of_r (by decide)]
theorem tot_r {u : CS} {w : Int32} : m_X0_total_r u w = m_X3_fact_r (u 6) w + m_X3_fact_r (u 7) w + m_X3_fact_r (u 8) w := by
  unfold m_X0_total_r
  rw [show nI 0 + m_X3_fact_r (u 6) w = m_X3_fact_r (u 6) w from Int32.zero_add _]
theorem tot_sm (u : CS) (w : Int32) : m_X0_total_r u w = sm u w := by rw [tot_r, sm_r]
theorem WL.q0 {u : CS} {T : Nat} (h : WL u T) : WQ u 0 ∧ WQ u 1 ∧ WQ u 2 := ⟨h.2.2.2.2.1 0 (by decide), h.2.2.2.2.1 1 (by decide), h.2.2.2.2.1 2 (by decide)⟩
theorem tot_3 {u : CS} {T : Nat} (h : WL u T) : m_X0_total_r u (nI 3) = nI (nS u 0 (nI 0) (cn u) + nS u 1 (nI 0) (cn u) + nS u 2 (nI 0) (cn u)) := by
  obtain ⟨a, b, c⟩ := h.q0
  have e0 : u 6 5 = _ := a.2.1
  have e1 : u 7 5 = _ := b.2.1
  have e2 : u 8 5 = _ := c.2.1
  rw [tot_r, fact_3, fact_3, fact_3, e0, e1, e2, nI_add, nI_add]
theorem tot_7 {u : CS} {T : Nat} (h : WL u T) : m_X0_total_r u (nI 7) = nI (nS u 0 (nI 1) (cn u) + nS u 1 (nI 1) (cn u) + nS u 2 (nI 1) (cn u)) := by
  obtain ⟨a, b, c⟩ := h.q0
  have e0 : u 6 8 = _ := a.2.2.2.1
  have e1 : u 7 8 = _ := b.2.2.2.1
  have e2 : u 8 8 = _ := c.2.2.2.1
  rw [tot_r, fact_7, fact_7, fact_7, e0, e1, e2, nI_add, nI_add]
theorem tot_8 {u : CS} {T : Nat} (h : WL u T) : m_X0_total_r u (nI 8) = nI (dr u) := by
  obtain ⟨a, b, c⟩ := h.q0
  have e0 : u 6 9 = _ := a.2.2.2.2.1
  have e1 : u 7 9 = _ := b.2.2.2.2.1
  have e2 : u 8 9 = _ := c.2.2.2.2.1
  rw [tot_r, fact_8, fact_8, fact_8, e0, e1, e2, nI_add, nI_add]
  rfl
theorem tot_tk (u : CS) : m_X0_total_r u (nI 7) = tk3 u := by
  rw [tot_r, fact_7, fact_7, fact_7]
  rfl
theorem W_tot {u : CS} {T : Nat} (h : WL u T) : ctr u (nI 1) = ctr u (nI 2) + ctr u (nI 3) + ctr u (nI 4) := by
  have ha := nS_all (u := u) (cn u) (fun i hi => (h.2.2.2.1 i hi).1)
  rw [ctr_1, ctr_2, ctr_3, ctr_4, tot_3 h, tot_7 h, tot_8 h, nI_add, nI_add, h.1.1]
  congr 1
  unfold dr
  omega
theorem row_r {u : CS} {i : Nat} (hi : i < 2 ^ 31) : m_X4_row_r u (nI i) = m_X0_queueAt_r u (nI i) := by
  unfold m_X4_row_r
  rw [if_neg (nI_pos hi)]
theorem fact_4 (Q : Nat → Int32) : m_X3_fact_r Q (nI 4) = if Q 3 = (-1) then nI 0 else nI 1 := by
  show (if m_X3_isCalled_r Q = 0 then nI 0 else nI 1) = _
  unfold m_X3_isCalled_r
  by_cases c : Q 3 = (-1)
  · rw [if_pos c]; rfl
  · rw [if_neg c]; rfl
theorem fact_5 {Q : Nat → Int32} (h : BB (Q 4)) : m_X3_fact_r Q (nI 5) = Q 4 := by
  show (if Q 4 = 0 then nI 0 else nI 1) = _
  rcases h with e | e
  · rw [e]; rfl
  · rw [e]; rfl
theorem fact_11 (Q : Nat → Int32) : m_X3_fact_r Q (nI 11) = Q 12 := rfl
theorem fact_12 (Q : Nat → Int32) : m_X3_fact_r Q (nI 12) = Q 6 := rfl
theorem fact_10 (Q : Nat → Int32) : m_X3_fact_r Q (nI 10) = Q 11 := rfl
theorem fact_2 (Q : Nat → Int32) : m_X3_fact_r Q (nI 2) = Q 2 := rfl
theorem fact_1 (Q : Nat → Int32) : m_X3_fact_r Q (nI 1) = Q 1 := rfl
theorem fact_0 (Q : Nat → Int32) : m_X3_fact_r Q (nI 0) = Q 0 := rfl
theorem sum4 {u : CS} {row : List Nat} (hR : SR u row) (hn : row.Nodup) (h3 : ∀ x ∈ row, x < 3) : nI row.length = sm u (nI 4) := by
  have hl := row_le hn h3
  have f : ∀ q, q < 3 → m_X3_fact_r (u (6 + q)) (nI 4) = nI (if q ∈ row then 1 else 0) := by
    intro q hq
    rw [fact_4]
    by_cases c : q ∈ row
    · rw [if_neg (fun e => (SR_out hR hq hl).mp e c), if_pos c]
    · rw [if_pos ((SR_out hR hq hl).mpr c), if_neg c]
  have f0 : m_X3_fact_r (u 6) (nI 4) = _ := f 0 (by decide)
  have f1 : m_X3_fact_r (u 7) (nI 4) = _ := f 1 (by decide)
  have f2 : m_X3_fact_r (u 8) (nI 4) = _ := f 2 (by decide)
  rw [sm_r, f0, f1, f2, nI_add, nI_add, row_len hn h3]
theorem fr_r {u : CS} {i : Nat} {w : Int32} (hM : CM u) (hi : i < cn u) : m_X4_frame_r u (nI i) w = m_X0_frameFact_r u i w := by
  have hc := hM.2.1
  have e : ¬ m_X0_hasFrame_r u (nI i) = 0 := by
    unfold m_X0_hasFrame_r
    rw [if_neg (nI_pos (by omega)), hM.1, if_neg (by rw [nI_leI (by omega) (by omega)]; omega)]
    decide +kernel
  unfold m_X4_frame_r
  rw [if_neg e, tn_of rfl (by omega)]
theorem fr_0 (u : CS) (i : Nat) : m_X0_frameFact_r u i (nI 0) = u 2 i := rfl
theorem fr_1 (u : CS) (i : Nat) : m_X0_frameFact_r u i (nI 1) = u 3 i := rfl
theorem fr_2 (u : CS) (i : Nat) : m_X0_frameFact_r u i (nI 2) = u 4 i := rfl
theorem fr_3 (u : CS) (i : Nat) : m_X0_frameFact_r u i (nI 3) = m_X0_waitOf_r u i := rfl
theorem dec1 (i : Nat) : nI i + Int32.ofInt (-1) = nI i - nI 1 := by
  rw [Int32.sub_eq_add_neg, show Int32.ofInt (-1) = -nI 1 by decide +kernel]
theorem mx_as (a b c : Int32) : mx a (mx b c) = mx (mx a b) c := by
  apply Int32.toInt_inj.mp
  rw [mx_toInt, mx_toInt, mx_toInt, mx_toInt]
  generalize a.toInt = x
  generalize b.toInt = y
  generalize c.toInt = z
  repeat' split
  all_goals omega
theorem mW_ge (u : CS) (q : Nat) : ∀ n, mx (-6) (mW u q n) = mW u q n := by
  intro n
  induction n with
  | zero => rfl
  | succ n ih =>
    rw [mW]
    split
    · rw [mx_as, ih]
    · exact ih
/-- what the law's walk over the frames of a queue has found, from the last frame down to the frame i -/
def INVF (u : CS) (q n i : Nat) (wt lg : Int32) (cI : Nat) (old last : Int32) : Prop :=
  wt + sW u q i = sW u q n ∧ (mx lg (mW u q i) = mW u q n ∧ mx lg (-6) = lg) ∧ cI + nS u q (nI 0) i = nS u q (nI 0) n ∧ ((old = (-6) ∧ ∀ j, i ≤ j → j < n → ¬ FR u q (nI 0) j) ∨ ∃ j, old = nI j ∧ i ≤ j ∧ j < n ∧ FR u q (nI 0) j ∧ ∀ b, i ≤ b → b < j → ¬ FR u q (nI 0) b) ∧ (last = nI 1 → ∃ j, i ≤ j ∧ j < n ∧ FR u q (nI 1) j)
theorem INVF_0 (u : CS) (q n : Nat) : INVF u q n n (nI 0) (-6) 0 (-6) (-1) :=
  ⟨Int32.zero_add _, ⟨mW_ge u q n, rfl⟩, Nat.zero_add _, Or.inl ⟨rfl, fun j h1 h2 => absurd h2 (by omega)⟩, fun h => absurd h (by decide +kernel)⟩
section
variable {u : CS} {q n i cI : Nat} {wt lg old last : Int32}
theorem INVF_old (h0 : ¬ FR u q (nI 0) i) (ho : (old = (-6) ∧ ∀ j, i + 1 ≤ j → j < n → ¬ FR u q (nI 0) j) ∨ ∃ j, old = nI j ∧ i + 1 ≤ j ∧ j < n ∧ FR u q (nI 0) j ∧ ∀ b, i + 1 ≤ b → b < j → ¬ FR u q (nI 0) b) : (old = (-6) ∧ ∀ j, i ≤ j → j < n → ¬ FR u q (nI 0) j) ∨ ∃ j, old = nI j ∧ i ≤ j ∧ j < n ∧ FR u q (nI 0) j ∧ ∀ b, i ≤ b → b < j → ¬ FR u q (nI 0) b := by
  rcases ho with ⟨a, b⟩ | ⟨j, a, b, c, d, e⟩
  · refine Or.inl ⟨a, fun j h1 h2 => ?_⟩
    by_cases z : j = i
    · rw [z]; exact h0
    · exact b j (by omega) h2
  · refine Or.inr ⟨j, a, by omega, c, d, fun b h1 h2 => ?_⟩
    by_cases z : b = i
    · rw [z]; exact h0
    · exact e b (by omega) h2
theorem INVF_last (hl : last = nI 1 → ∃ j, i + 1 ≤ j ∧ j < n ∧ FR u q (nI 1) j) : last = nI 1 → ∃ j, i ≤ j ∧ j < n ∧ FR u q (nI 1) j := fun h => by
  obtain ⟨j, a, b⟩ := hl h
  exact ⟨j, by omega, b⟩
theorem INVF_skip (h : INVF u q n (i + 1) wt lg cI old last) (h0 : ¬ FR u q (nI 0) i) (h1 : ¬ FR u q (nI 1) i) : INVF u q n i wt lg cI old last := by
  obtain ⟨a, b, c, d, f⟩ := h
  rw [sW, if_neg h1, Int32.add_zero] at a
  rw [mW, if_neg h1] at b
  rw [nS, if_neg h0, Nat.add_zero] at c
  exact ⟨a, b, c, INVF_old h0 d, INVF_last f⟩
theorem INVF_st0 (h : INVF u q n (i + 1) wt lg cI old last) (hi : i < n) (h0 : FR u q (nI 0) i) : INVF u q n i wt lg (cI + 1) (nI i) (nI 0) := by
  have h1 : ¬ FR u q (nI 1) i := fun z => absurd (h0.1.symm.trans z.1) (by decide +kernel)
  obtain ⟨a, b, c, d, f⟩ := h
  rw [sW, if_neg h1, Int32.add_zero] at a
  rw [mW, if_neg h1] at b
  rw [nS, if_pos h0] at c
  exact ⟨a, b, by omega, Or.inr ⟨i, rfl, Nat.le_refl _, hi, h0, fun b h1 h2 => by omega⟩, fun z => absurd z (by decide +kernel)⟩
theorem INVF_st1 {w : Int32} (h : INVF u q n (i + 1) wt lg cI old last) (hi : i < n) (h1 : FR u q (nI 1) i) (hw : u 5 i - u 3 i = w) : INVF u q n i (wt + w) (mx lg w) cI old (nI 1) := by
  have h0 : ¬ FR u q (nI 0) i := fun z => absurd (z.1.symm.trans h1.1) (by decide +kernel)
  obtain ⟨a, ⟨b1, b2⟩, c, d, f⟩ := h
  rw [sW, if_pos h1, hw] at a
  rw [mW, if_pos h1, hw] at b1
  rw [nS, if_neg h0, Nat.add_zero] at c
  refine ⟨?_, ⟨?_, ?_⟩, c, INVF_old h0 d, fun _ => ⟨i, Nat.le_refl _, hi, h1⟩⟩
  · rw [← a]; ac_rfl
  · rw [← b1, mx_as, mx_rc]
  · rw [mx_rc, b2]
theorem INVF_fin (h : INVF u q n 0 wt lg cI old last) : wt = sW u q n ∧ lg = mW u q n ∧ cI = nS u q (nI 0) n ∧ OLD u q n old := by
  obtain ⟨a, ⟨b1, b2⟩, c, d, -⟩ := h
  refine ⟨?_, ?_, c, ?_⟩
  · rw [← a]; exact (Int32.add_zero _).symm
  · rw [← b1]; exact b2.symm
  · rcases d with ⟨x, y⟩ | ⟨j, x, -, y, z, w⟩
    · exact Or.inl ⟨x, fun j hj => y j (Nat.zero_le _) hj⟩
    · exact Or.inr ⟨j, x, y, z, fun b hb => w b (Nat.zero_le _) hb⟩
end
theorem OLD_uq {u : CS} {q n : Nat} {x y : Int32} (hn : n ≤ 400) (hx : OLD u q n x) (hy : OLD u q n y) : x = y := by
  rcases hx with ⟨a, b⟩ | ⟨j, a, b, c, d⟩
  · rcases hy with ⟨a', b'⟩ | ⟨j', a', b', c', d'⟩
    · rw [a, a']
    · exact absurd c' (b j' b')
  · rcases hy with ⟨a', b'⟩ | ⟨j', a', b', c', d'⟩
    · exact absurd c (b' j b)
    · rcases Nat.lt_trichotomy j j' with e | e | e
      · exact absurd c (d' j e)
      · rw [a, a', e]
      · exact absurd c' (d j' e)
theorem nS_pos {u : CS} {p : Nat} {s : Int32} : ∀ n, (∃ i, i < n ∧ FR u p s i) ↔ 0 < nS u p s n := by
  intro n
  induction n with
  | zero => exact ⟨fun ⟨i, h, _⟩ => absurd h (Nat.not_lt_zero i), fun h => absurd h (Nat.lt_irrefl 0)⟩
  | succ n ih =>
    rw [nS]
    by_cases c : FR u p s n
    · rw [if_pos c]
      exact ⟨fun _ => by omega, fun _ => ⟨n, by omega, c⟩⟩
    · rw [if_neg c]
      show _ ↔ 0 < nS u p s n
      rw [← ih]
      constructor
      · rintro ⟨i, h1, h2⟩
        have : i ≠ n := fun e => c (e ▸ h2)
        exact ⟨i, by omega, h2⟩
      · rintro ⟨i, h1, h2⟩
        exact ⟨i, by omega, h2⟩
theorem why_r {u : CS} {q : Nat} (hq : q < 3) : m_X4_why_r u (nI q) = m_X0_whySilent_r u (u (6 + q)) := by
  unfold m_X4_why_r
  rw [if_neg (isq_t hq), tn_of rfl (by omega)]
theorem tail_cases {u : CS} {T q : Nat} (h : WL u T) (hq : q < 3) :
    (m_X3_fact_r (u (6 + q)) (nI 4) = nI 1 ∧ m_X4_why_r u (nI q) = nI 1) ∨
    (m_X3_fact_r (u (6 + q)) (nI 4) = nI 0 ∧ u (6 + q) 12 = nI 0 ∧ m_X3_fact_r (u (6 + q)) (nI 5) = nI 1 ∧ m_X4_why_r u (nI q) = nI 2) ∨
    (m_X3_fact_r (u (6 + q)) (nI 4) = nI 0 ∧ u (6 + q) 12 = nI 0 ∧ m_X3_fact_r (u (6 + q)) (nI 5) = nI 0 ∧ nS u q (nI 0) (cn u) = 0 ∧ m_X4_why_r u (nI q) = nI 3) ∨
    (m_X3_fact_r (u (6 + q)) (nI 4) = nI 0 ∧ u (6 + q) 12 = nI 0 ∧ m_X3_fact_r (u (6 + q)) (nI 5) = nI 0 ∧ ¬ nS u q (nI 0) (cn u) = 0 ∧ ¬ m_X4_why_r u (nI q) = nI 3) := by
  have hw := h.2.2.2.2.1 q hq
  have ho := has_old h.1 hw.2.2.1
  rw [why_r hq, fact_4, fact_5 hw.1.1]
  unfold m_X0_whySilent_r m_X3_isCalled_r
  by_cases c : u (6 + q) 3 = (-1)
  · rw [if_pos c, if_pos (show nI 0 = 0 from rfl)]
    have z := hw.2.2.2.2.2.2.2.2.2.1 c
    rcases hw.1.1 with b | b
    · rw [b, if_pos (show nI 0 = 0 from rfl)]
      by_cases d : u (6 + q) 6 = (-6)
      · rw [if_pos (ho.mpr d)]
        refine Or.inr (Or.inr (Or.inl ⟨rfl, z, rfl, ?_, rfl⟩))
        rcases hw.2.2.1 with ⟨_, e⟩ | ⟨j, e, hj, -⟩
        · rcases Nat.eq_zero_or_pos (nS u q (nI 0) (cn u)) with g | g
          · exact g
          · obtain ⟨i, i1, i2⟩ := (nS_pos _).mpr g
            exact absurd i2 (e i i1)
        · rw [d] at e
          have hc := h.1.2.1
          exact absurd e.symm (k_neg (by omega) (by decide))
      · rw [if_neg (fun e => d (ho.mp e))]
        refine Or.inr (Or.inr (Or.inr ⟨rfl, z, rfl, ?_, ?_⟩))
        · rcases hw.2.2.1 with ⟨e, _⟩ | ⟨j, e, hj, hf, -⟩
          · exact absurd e d
          · have := (nS_pos (cn u)).mp ⟨j, hj, hf⟩
            omega
        · repeat' split
          all_goals decide +kernel
    · rw [b, if_neg (show ¬ nI 1 = 0 by decide +kernel)]
      exact Or.inr (Or.inl ⟨rfl, z, rfl, rfl⟩)
  · rw [if_neg c, if_neg (show ¬ nI 1 = 0 by decide +kernel)]
    exact Or.inl ⟨rfl, rfl⟩
