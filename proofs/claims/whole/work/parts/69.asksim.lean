/-! Answers, side by side: of, frame, row, count, why, takenIn, would -/
theorem in_ft {j n : Nat} (hj : j < n) (hn : n ≤ 400) : ¬ m_X5_in_r (nI j).toInt64 0 ((nI n).toInt64 - 1) = 0 := by
  have e1 : (nI n).toInt64 - 1 = lN (n - 1) := by rw [nI_l (by omega), show (1 : Int64) = lN 1 from rfl, lN_sub (by omega)]
  have z : (0 : Int64).toInt = 0 := rfl
  rw [e1, nI_l (by omega)]
  unfold m_X5_in_r
  rw [if_neg, if_neg]
  · decide +kernel
  · rw [Int64.lt_iff_toInt_lt, lN_toInt (by omega), lN_toInt (by omega)]; omega
  · rw [Int64.lt_iff_toInt_lt, lN_toInt (by omega), z]; omega
theorem isf_eq {u : CS} {f : Nat → Int32} {x : Int32} (h : CORE u f) : m_X0_hasFrame_r u x = 0 ↔ m_X5_isFrame_r f x = 0 := by
  have h5 := h.cn5
  have hc := h.1.2.1
  unfold m_X5_isFrame_r
  constructor
  · intro e
    refine Classical.byContradiction (fun n => ?_)
    obtain ⟨a1, a2⟩ := in_f (by omega) n
    rw [h5] at a2
    unfold m_X0_hasFrame_r at e
    rw [a1, if_neg (nI_pos (tn_lt x)), h.1.1, if_neg (by rw [nI_leI (by omega) (tn_lt x)]; omega)] at e
    exact absurd e (by decide)
  · intro e
    refine Classical.byContradiction (fun n => ?_)
    obtain ⟨a1, a2⟩ := hf_n h.1 n
    rw [a1, h5] at e
    exact in_ft a2 hc e
theorem wait_eq {u : CS} {f : Nat → Int32} {j : Nat} (h : CORE u f) (hj : j < cn u) : m_X0_waitOf_r u j = m_X5_waitOf_r f j := by
  obtain ⟨a0, a1, a2, a3, -, -⟩ := h.2.2.2.2.1 j hj
  rw [m_X0_waitOf_r, m_X5_waitOf_r, ← a2]
  by_cases c1 : u 4 j = nI 2
  · rw [if_pos c1, if_pos c1]
  · rw [if_neg c1, if_neg c1]
    by_cases c2 : u 4 j = nI 1
    · rw [if_pos c2, if_pos c2, a3 c2]
    · rw [if_neg c2, if_neg c2, h.2.1, a1]
theorem S_frame {u : CS} {f : Nat → Int32} {x w : Int32} (h : SIM u f) : m_X4_frame_r u x w = m_X5_frame_r f x w := by
  have hC := h.1
  have h5 := hC.cn5
  have hf := isf_eq (x := x) hC
  rw [m_X4_frame_r, m_X5_frame_r]
  by_cases c1 : m_X5_isFrame_r f x = 0
  · rw [if_pos (hf.mpr c1), if_pos c1]
  · rw [if_neg (fun e => c1 (hf.mp e)), if_neg c1]
    obtain ⟨-, hj⟩ := hf_n hC.1 (fun e => c1 (hf.mp e))
    obtain ⟨j, ej⟩ : ∃ j, tn x = j := ⟨_, rfl⟩
    rw [ej] at hj ⊢
    obtain ⟨a0, a1, a2, -, -, -⟩ := hC.2.2.2.2.1 j hj
    rw [m_X0_frameFact_r]
    by_cases c2 : m_X5_in_r w.toInt64 0 2 = 0
    · have h2 : m_X5_in_r w.toInt64 0 2 = 0 ↔ (w < nI 0 ∨ nI 2 < w) := in0 (lo := nI 0) (up := nI 2) (by decide) (by decide)
      have n : ∀ k, k ≤ 2 → ¬ w = nI k := by
        intro k hk e
        rcases h2.mp c2 with z | z
        · rw [e, nI_ltI (by omega) (by decide)] at z; omega
        · rw [e, nI_ltI (by decide) (by omega)] at z; omega
      rw [if_pos c2, if_neg (n 0 (by decide)), if_neg (n 1 (by decide)), if_neg (n 2 (by decide)), wait_eq hC hj]
    · rw [if_neg c2]
      obtain ⟨k1, -, k2⟩ := in_n (a := 0) (b := 2) rfl rfl (by decide) c2
      obtain ⟨k, ek⟩ : ∃ k, tn w = k := ⟨_, rfl⟩
      rw [ek] at k1 k2 ⊢
      subst k1
      rcases (by omega : k = 0 ∨ k = 1 ∨ k = 2) with rfl | rfl | rfl
      · rw [if_pos rfl]; exact a0
      · rw [if_neg (show ¬ nI 1 = nI 0 by decide +kernel), if_pos rfl]; exact a1
      · rw [if_neg (show ¬ nI 2 = nI 0 by decide +kernel), if_neg (show ¬ nI 2 = nI 1 by decide +kernel), if_pos rfl]; exact a2
theorem S_row {u : CS} {f : Nat → Int32} {x : Int32} (h : SIM u f) : m_X4_row_r u x = m_X5_row_r f x := by
  obtain ⟨-, -, row, hI, hR⟩ := h
  have hl := hI.le
  rw [m_X4_row_r, m_X5_row_r, hI.tn6]
  by_cases c0 : x < 0
  · rw [if_pos c0, if_pos]
    unfold m_X5_in_r
    rw [if_pos]
    · rfl
    · rw [Int32.lt_iff_toInt_lt] at c0
      rw [Int64.lt_iff_toInt_lt, Int32.toInt_toInt64]
      exact c0
  · rw [if_neg c0]
    obtain ⟨i, hi, rfl⟩ := nI_of c0
    by_cases c1 : i < row.length
    · rw [if_neg (in_ft c1 (by omega)), tn_of rfl hi]
      have e := List.getElem?_eq_getElem c1
      rw [queueAt_some hR hI.2.2.1 hI.2.2.2 e]
      exact (hI.2.1 i _ e).symm
    · rw [if_pos, queueAt_none hR hI.2.2.1 hI.2.2.2 (List.getElem?_eq_none (by omega)) hi]
      refine Classical.byContradiction (fun n => ?_)
      obtain ⟨-, a2⟩ := in_f (by omega) n
      rw [tn_of rfl hi] at a2
      exact c1 a2
theorem S_why {u : CS} {f : Nat → Int32} {x : Int32} (h : SIM u f) : m_X4_why_r u x = m_X5_why_r f x := by
  rw [m_X4_why_r, m_X5_why_r]
  by_cases c : m_X5_isQueue_r x = 0
  · rw [if_pos ((isq_eq x).mpr c), if_pos c]
  · obtain ⟨j, hj, rfl⟩ := isqj5 c
    rw [if_neg (fun e => c ((isq_eq _).mp e)), if_neg c, tn_of rfl (by omega), SIM_why hj h]
theorem fact_3 (q : Nat → Int32) : m_X3_fact_r q (nI 3) = q 5 := rfl
theorem fact_6 (q : Nat → Int32) : m_X3_fact_r q (nI 6) = q 7 := rfl
theorem fact_7 (q : Nat → Int32) : m_X3_fact_r q (nI 7) = q 8 := rfl
theorem fact_8 (q : Nat → Int32) : m_X3_fact_r q (nI 8) = q 9 := rfl
theorem fact_9 (q : Nat → Int32) : m_X3_fact_r q (nI 9) = q 10 := rfl
theorem tot3 {x a b c : Int32} : (((nI 0) + a) + b) + c = a + b + c := by rw [show nI 0 + a = a from Int32.zero_add a]
theorem total_7 {u : CS} {f : Nat → Int32} (h : CORE u f) : m_X0_total_r u (nI 7) = m_X5_allOf_r f 5 := by
  rw [m_X0_total_r, fact_7, fact_7, fact_7, tot3 (x := 0), CORE_all h (by decide)]; rfl
theorem total_6 {u : CS} {f : Nat → Int32} (h : CORE u f) : m_X0_total_r u (nI 6) = m_X5_allOf_r f 4 := by
  rw [m_X0_total_r, fact_6, fact_6, fact_6, tot3 (x := 0), CORE_all h (by decide)]; rfl
theorem total_8 {u : CS} {f : Nat → Int32} (h : CORE u f) : m_X0_total_r u (nI 8) = m_X5_allOf_r f 6 := by
  rw [m_X0_total_r, fact_8, fact_8, fact_8, tot3 (x := 0), CORE_all h (by decide)]; rfl
theorem total_9 {u : CS} {f : Nat → Int32} (h : CORE u f) : m_X0_total_r u (nI 9) = m_X5_allOf_r f 7 := by
  rw [m_X0_total_r, fact_9, fact_9, fact_9, tot3 (x := 0), CORE_all h (by decide)]; rfl
theorem total_3 {u : CS} {f : Nat → Int32} (h : CORE u f) : m_X0_total_r u (nI 3) = m_X5_inRings_r f := by
  have h0 : u 6 5 = m_X5_ring_r f 0 := (h.2.2.2.2.2 0 (by decide)).2.1
  have h1 : u 7 5 = m_X5_ring_r f 1 := (h.2.2.2.2.2 1 (by decide)).2.1
  have h2 : u 8 5 = m_X5_ring_r f 2 := (h.2.2.2.2.2 2 (by decide)).2.1
  rw [m_X0_total_r, fact_3, fact_3, fact_3, tot3 (x := 0), h0, h1, h2]; rfl
theorem mset_eq {u : CS} {f : Nat → Int32} (h : CORE u f) : m_X0_maskedSet_r u = ((m_X5_get_r f 0 3) + ((nI 2) * (m_X5_get_r f 1 3))) + ((nI 4) * (m_X5_get_r f 2 3)) := by
  have h0 : u 6 4 = m_X5_get_r f 0 3 := (h.2.2.2.2.2 0 (by decide)).1 3 (by decide)
  have h1 : u 7 4 = m_X5_get_r f 1 3 := (h.2.2.2.2.2 1 (by decide)).1 3 (by decide)
  have h2 : u 8 4 = m_X5_get_r f 2 3 := (h.2.2.2.2.2 2 (by decide)).1 3 (by decide)
  have b0 : BB (u 6 4) := (h.2.2.2.2.2 0 (by decide)).2.2.2
  have b1 : BB (u 7 4) := (h.2.2.2.2.2 1 (by decide)).2.2.2
  have b2 : BB (u 8 4) := (h.2.2.2.2.2 2 (by decide)).2.2.2
  rw [m_X0_maskedSet_r, ← h0, ← h1, ← h2]
  rcases b0 with b0 | b0 <;> rcases b1 with b1 | b1 <;> rcases b2 with b2 | b2 <;> rw [b0, b1, b2] <;> decide +kernel
theorem S_count {u : CS} {f z zr : Nat → Int32} {sz w : Int32} (h : SIM u f) (h7 : z 1 = zr 7) (h3 : sz = zr 3) : m_X4_count_r u z sz w = m_X5_count_r zr f w := by
  have hC := h.1
  have e5 : u 0 3 = nI (tn (f 5)) := by rw [hC.cn5]; exact hC.1.1
  have e8 : u 1 1 = nI (tn (f 1)) := by rw [hC.2.2.2.1 1 (by decide)]; exact h.2.1.2.2.1.1
  rw [m_X4_count_r, m_X5_count_r, hC.2.1, e5, e8, hC.2.2.2.1 0 (by decide), hC.2.2.2.1 2 (by decide), hC.2.2.2.1 3 (by decide), h7, h3, total_3 hC, total_6 hC, total_7 hC, total_8 hC, mset_eq hC]
theorem S_of {u : CS} {f : Nat → Int32} {x w : Int32} (h : SIM u f) : m_X4_of_r u x w = m_X5_of_r f x w := by
  rw [m_X4_of_r, m_X5_of_r]
  by_cases c : m_X5_isQueue_r x = 0
  · rw [if_pos ((isq_eq x).mpr c), if_pos c]
  · obtain ⟨j, hj, rfl⟩ := isqj5 c
    obtain ⟨b0, b1, b2, b3⟩ := h.1.2.2.2.2.2 j hj
    have hp := called_pl hj h
    have g0 : u (6 + j) 0 = m_X5_get_r f j 0 := b0 0 (by decide)
    have g1 : u (6 + j) 1 = m_X5_get_r f j 1 := b0 1 (by decide)
    have g2 : u (6 + j) 2 = m_X5_get_r f j 2 := b0 2 (by decide)
    have g3 : u (6 + j) 4 = m_X5_get_r f j 3 := b0 3 (by decide)
    have g4 : u (6 + j) 7 = m_X5_get_r f j 4 := b0 4 (by decide)
    have g5 : u (6 + j) 8 = m_X5_get_r f j 5 := b0 5 (by decide)
    have g6 : u (6 + j) 9 = m_X5_get_r f j 6 := b0 6 (by decide)
    have g7 : u (6 + j) 10 = m_X5_get_r f j 7 := b0 7 (by decide)
    have g8 : u (6 + j) 11 = m_X5_get_r f j 8 := b0 8 (by decide)
    have g9 : u (6 + j) 12 = m_X5_get_r f j 9 := b0 9 (by decide)
    have e4 : (if m_X3_isCalled_r (u (6 + j)) = 0 then nI 0 else nI 1) = (if m_X5_placeInRow_r f j = (-6) then nI 0 else nI 1) := by
      by_cases c4 : m_X5_placeInRow_r f j = (-6)
      · rw [if_pos c4, if_pos (hp.mpr c4)]
      · rw [if_neg c4, if_neg (fun e => c4 (hp.mp e))]
    have e5 : (if u (6 + j) 4 = 0 then nI 0 else nI 1) = m_X5_get_r f j 3 := by
      rw [← g3]
      rcases b3 with b | b
      · rw [b, if_pos (show nI 0 = 0 from rfl)]
      · rw [b, if_neg (show ¬ nI 1 = 0 by decide +kernel)]
    rw [if_neg (fun e => c ((isq_eq _).mp e)), if_neg c, tn_of rfl (by omega), m_X3_fact_r, e4, e5, g0, g1, g2, g4, g5, g6, g7, g8, g9, b1, b2]
/-! takenIn -/
theorem pollG_k {q : Nat} : ∀ (r : Nat) (u : CS), lp_pollG q r u 2 = u 2 ∧ lp_pollG q r u 3 = u 3 ∧ ∀ i, lp_pollG q r u 4 i = u 4 i ∨ lp_pollG q r u 4 i = nI 1 := by
  intro r
  induction r with
  | zero => intro u; exact ⟨rfl, rfl, fun _ => Or.inl rfl⟩
  | succ r ih =>
    intro u
    rw [lp_pollG]
    split
    · exact ⟨rfl, rfl, fun _ => Or.inl rfl⟩
    · obtain ⟨h2, h3, h4⟩ := ih (takeG q u)
      have e2 : takeG q u 2 = u 2 := by unfold takeG; rw [st2_n (by omega), st2_n (by decide), st2_n (by decide)]
      have e3 : takeG q u 3 = u 3 := by unfold takeG; rw [st2_n (by omega), st2_n (by decide), st2_n (by decide)]
      have e4 : takeG q u 4 = upd (u 4) (tn (u (6 + q) 6)) (nI 1) := by unfold takeG; rw [st2_n (by omega), st2_n (by decide), st2_s]; rfl
      refine ⟨h2.trans e2, h3.trans e3, fun i => ?_⟩
      rcases h4 i with h | h
      · rw [h, e4]
        by_cases e : i = tn (u (6 + q) 6)
        · subst e; exact Or.inr pk_us
        · exact Or.inl (pk_un e)
      · exact Or.inr h
theorem PRG_k {q t : Nat} {u : CS} {c : Nat} (hc : c < 6) : PRG q u t c = u c := by
  unfold PRG
  split
  · rw [st2_n (by omega), leave_hd c hc]
  · rw [st2_n (by omega), leave_hd c hc]
theorem poll_c (u : CS) : m_X0_poll_u u = u ∨ ∃ q r t, q < 3 ∧ m_X0_poll_u u = PRG q (lp_pollG q r u) t := by
  rw [m_X0_poll_u]
  split
  · exact Or.inl rfl
  · refine Or.inr ?_
    split
    · exact ⟨0, tn (u 1 1), _, by decide, by rw [(poll_G0 _ _).1]; exact (pr_0 _ _).1⟩
    · split
      · exact ⟨1, tn (u 1 1), _, by decide, by rw [(poll_G1 _ _).1]; exact (pr_1 _ _).1⟩
      · exact ⟨2, tn (u 1 1), _, by decide, by rw [(poll_G2 _ _).1]; exact (pr_2 _ _).1⟩
theorem callG_k {q : Nat} {u : CS} {c : Nat} (hc : c < 6) : callG q u c = u c := by
  unfold callG enterG
  split
  · rw [st2_n (by omega)]
  · rfl
theorem tick_k (u : CS) : m_X0_tick_u u 2 = u 2 ∧ m_X0_tick_u u 3 = u 3 ∧ ∀ i, m_X0_tick_u u 4 i = u 4 i ∨ m_X0_tick_u u 4 i = nI 1 := by
  have e : ∀ c, 1 ≤ c → c < 6 → m_X0_tick_u u c = m_X0_poll_u u c := by
    intro c h1 h6
    rw [(tick_G u).1]
    unfold tick1
    rw [st2_n (by omega), callG_k h6, callG_k h6, callG_k h6]
  rw [e 2 (by decide) (by decide), e 3 (by decide) (by decide), e 4 (by decide) (by decide)]
  rcases poll_c u with h | ⟨q, r, t, -, h⟩
  · rw [h]; exact ⟨rfl, rfl, fun _ => Or.inl rfl⟩
  · rw [h, PRG_k (by decide), PRG_k (by decide), PRG_k (by decide)]
    exact pollG_k r u
theorem tick_cn {u : CS} {f : Nat → Int32} (h : SIM u f) : cn (m_X0_tick_u u) = cn u := by
  have h' := (SIM_tick h).1
  rw [← h'.1.cn5, ← h.1.cn5, AS_tick 5 (Or.inr rfl)]
theorem tk_eq {j : Nat} : ∀ (r i : Nat) (u : CS) (f : Nat → Int32), SIM u f → j < cn u → u 4 j = nI 0 → 1 ≤ i → i + r = 501 → lp_tk j r i u = m_tkrest_r (i - 1 + lp_tkN j (r + 1) f) := by
  intro r
  induction r with
  | zero =>
    intro i u f h hj h0 h1 hi
    have a2 := (h.1.2.2.2.2.1 j hj).2.2.1
    rw [lp_tk, lp_tkN, if_pos (show m_X5_frameAt_r f j 2 = 0 from a2.symm.trans h0), lp_tkN, m_tkrest_r, if_neg (by omega)]
  | succ r ih =>
    intro i u f h hj h0 h1 hi
    have a2 := (h.1.2.2.2.2.1 j hj).2.2.1
    have h' := (SIM_tick h).1
    have hj' : j < cn (m_X0_tick_u u) := by rw [tick_cn h]; exact hj
    have b2 := (h'.1.2.2.2.2.1 j hj').2.2.1
    rw [lp_tk, lp_tkN, if_pos (show m_X5_frameAt_r f j 2 = 0 from a2.symm.trans h0)]
    by_cases c : m_X0_tick_u u 4 j = nI 1
    · rw [if_pos c, lp_tkN, if_neg (by rw [← b2, c]; decide +kernel), m_tkrest_r, if_pos (by omega), show i - 1 + (1 + 0) = i by omega]
    · have c0 : m_X0_tick_u u 4 j = nI 0 := by
        rcases (tick_k u).2.2 j with e | e
        · rw [e, h0]
        · exact absurd e c
      rw [if_neg c, ih (i + 1) _ _ h' hj' c0 (by omega) (by omega)]
      obtain ⟨N, hN⟩ : ∃ N, lp_tkN j (r + 1) (m_X5_tick_f f) = N := ⟨_, rfl⟩
      rw [hN, show i + 1 - 1 + N = i - 1 + (1 + N) by omega]
theorem S_takenIn {u p : CS} {f : Nat → Int32} {x : Int32} (h : SIM u f) : m_X4_takenIn_r u p x = m_X5_takenIn_r f x := by
  have hC := h.1
  have hf := isf_eq (x := x) hC
  rw [m_X4_takenIn_r, m_X5_takenIn_r]
  by_cases c1 : m_X5_isFrame_r f x = 0
  · rw [if_pos (hf.mpr c1), if_pos c1]
  · rw [if_neg (fun e => c1 (hf.mp e)), if_neg c1]
    obtain ⟨-, hj⟩ := hf_n hC.1 (fun e => c1 (hf.mp e))
    obtain ⟨j, ej⟩ : ∃ j, tn x = j := ⟨_, rfl⟩
    rw [ej] at hj ⊢
    have a2 := (hC.2.2.2.2.1 j hj).2.2.1
    rw [← a2]
    by_cases c2 : u 4 j = 0
    · have hp := SIM_copy (u := p) h
      have hcp : cn (m_X0_copyFrom_u p u) = cn u := by rw [← hp.1.cn5, hC.cn5]
      have hj2 : j < cn (m_X0_copyFrom_u p u) := by rw [hcp]; exact hj
      have e2 := (hp.1.2.2.2.2.1 j hj2).2.2.1
      rw [if_pos c2, if_pos c2, tk_eq 500 1 _ f hp hj2 (by rw [e2, ← a2]; exact c2) (by decide) rfl]
    · rw [if_neg c2, if_neg c2]
theorem S_would {u p : CS} {f : Nat → Int32} {x w : Int32} (h : SIM u f) : m_X4_would_r u p x w = m_X5_would_r f x w := by
  have hC := h.1
  have hw3 : m_X5_in_r w.toInt64 0 3 = 0 ↔ (w < 0 ∨ nI 3 < w) := in0 (lo := 0) (up := nI 3) rfl (by decide)
  rw [m_X4_would_r, m_X5_would_r]
  by_cases c1 : m_X5_areTicks_r x = 0
  · rw [if_pos c1]
    rcases aret_eq.mp c1 with e | e
    · rw [if_pos e]
    · by_cases e1 : x < nI 1
      · rw [if_pos e1]
      · rw [if_neg e1, if_pos e]
  · rw [if_neg c1, if_neg (fun e => c1 (aret_eq.mpr (Or.inl e))), if_neg (fun e => c1 (aret_eq.mpr (Or.inr e)))]
    by_cases c2 : m_X5_in_r w.toInt64 0 3 = 0
    · rw [if_pos c2]
      by_cases e1 : w < 0
      · rw [if_pos e1]
      · rw [if_neg e1, if_neg]
        intro e
        rcases hw3.mp c2 with z | z
        · exact e1 z
        · exact Int32.not_lt.mpr e z
    · have hp := SIM_copy (u := p) h
      obtain ⟨g1, -⟩ := SIM_run (tn x) hp
      rw [if_neg c2, if_neg (fun e => c2 (hw3.mpr (Or.inl e))), if_pos (Int32.not_lt.mp (fun e => c2 (hw3.mpr (Or.inr e)))), wd_r, total_7 g1.1, total_6 g1.1, total_9 g1.1, total_3 g1.1, total_7 hC, total_6 hC, total_9 hC]
      rfl
