/-! Calls, reasons, ticks, side by side -/
def enterG (q : Nat) (u : CS) : CS := st2 u (6 + q) (upd (upd (upd (u (6 + q)) 3 (m_X0_rowLength_r u)) 7 ((u (6 + q) 7) + (nI 1))) 12 (nI 0))
theorem enter_0 (u : CS) : m_X0_enterRow_0_u u = enterG 0 u := rfl
theorem enter_1 (u : CS) : m_X0_enterRow_1_u u = enterG 1 u := rfl
theorem enter_2 (u : CS) : m_X0_enterRow_2_u u = enterG 2 u := rfl
theorem SIM_call {u : CS} {f : Nat → Int32} {q : Nat} (hq : q < 3) (h : SIM u f) (hr : m_X5_placeInRow_r f q = (-6)) : SIM (enterG q u) (m_X5_doCall_f f q) := by
  obtain ⟨hC, hw, row, hI, hR⟩ := h
  have hn : q ∉ row := fun hm => by
    obtain ⟨j, hj, e⟩ := place_in hI hm
    have hl := hI.le
    have hjl := (List.getElem?_eq_some_iff.mp hj).1
    rw [e] at hr
    exact k_neg (by omega) (by decide) hr
  have hl := len_lt hI hq hn
  have e6 := hI.tn6
  have hI2 := RI_call hI hq hn
  refine ⟨?_, WF_doCall hw hq (by omega), row ++ [q], hI2, SR_app hq hR hn (rowLength_eq hR hI.2.2.1 hI.2.2.2)⟩
  rw [m_X5_doCall_f, e6]
  obtain ⟨b0, b1, b2, b3⟩ := hC.2.2.2.2.2 q hq
  have hC1 : CORE u (upd (upd f (7 + row.length) (nI q)) 6 (nI (row.length + 1))) := CORE_cong hC (fun _ _ => rfl) (fun _ _ _ _ => rfl) (fun j hj => (pk_un (by omega)).trans (pk_un (by omega))) (fun j h1 h2 => (pk_un (by omega)).trans (pk_un (by omega)))
  obtain ⟨f1, hf1⟩ : ∃ f1, upd (upd f (7 + row.length) (nI q)) 6 (nI (row.length + 1)) = f1 := ⟨_, rfl⟩
  have hg : ∀ w, w < 10 → m_X5_get_r f1 q w = m_X5_get_r f q w := fun w hw => by rw [← hf1, g_hd (by decide), g_hd (by omega)]
  rw [hf1] at hC1 ⊢
  refine CORE_q hq hC1 (fun j hj => AG_lays (AG_more (AG.rf _)) j (by omega)) (fun i _ w _ => by rw [a_lays hq (by decide), a_more hq (by decide)]) (fun p hp hn w hw => by rw [g_lays_q hn (by decide) hw, g_more_q hn (by decide) hw]) ?_ rfl rfl b3
  refine lt10 ?_ ?_ ?_ ?_ ?_ ?_ ?_ ?_ ?_ ?_
  · rw [g_lays_w (by decide), g_more_w (by decide), hg 0 (by decide)]; exact b0 0 (by decide)
  · rw [g_lays_w (by decide), g_more_w (by decide), hg 1 (by decide)]; exact b0 1 (by decide)
  · rw [g_lays_w (by decide), g_more_w (by decide), hg 2 (by decide)]; exact b0 2 (by decide)
  · rw [g_lays_w (by decide), g_more_w (by decide), hg 3 (by decide)]; exact b0 3 (by decide)
  · rw [g_lays_w (by decide), g_more_s, hg 4 (by decide)]; exact congrArg (· + nI 1) (b0 4 (by decide))
  · rw [g_lays_w (by decide), g_more_w (by decide), hg 5 (by decide)]; exact b0 5 (by decide)
  · rw [g_lays_w (by decide), g_more_w (by decide), hg 6 (by decide)]; exact b0 6 (by decide)
  · rw [g_lays_w (by decide), g_more_w (by decide), hg 7 (by decide)]; exact b0 7 (by decide)
  · rw [g_lays_w (by decide), g_more_w (by decide), hg 8 (by decide)]; exact b0 8 (by decide)
  · rw [g_lays_s]; rfl
theorem called_pl {u : CS} {f : Nat → Int32} {q : Nat} (hq : q < 3) (h : SIM u f) : m_X3_isCalled_r (u (6 + q)) = 0 ↔ m_X5_placeInRow_r f q = (-6) := by
  obtain ⟨hC, hw, row, hI, hR⟩ := h
  rw [call_in hR hI.le hq]
  constructor
  · exact place_out hI hq
  · intro e hm
    obtain ⟨j, hj, e2⟩ := place_in hI hm
    have hl := hI.le
    have hjl := (List.getElem?_eq_some_iff.mp hj).1
    rw [e2] at e
    exact k_neg (by omega) (by decide) e
theorem SIM_why {u : CS} {f : Nat → Int32} {q : Nat} (hq : q < 3) (h : SIM u f) : m_X0_whySilent_r u (u (6 + q)) = m_X5_reason_r f q := by
  have hp := called_pl hq h
  have hC := h.1
  have ho := hasf_old hq hC h.2.1
  obtain ⟨b0, b1, b2, b3⟩ := hC.2.2.2.2.2 q hq
  have e1 : u (6 + q) 1 = m_X5_get_r f q 1 := b0 1 (by decide)
  have e2 : u (6 + q) 2 = m_X5_get_r f q 2 := b0 2 (by decide)
  have e3 : u (6 + q) 4 = m_X5_get_r f q 3 := b0 3 (by decide)
  have e4 := hC.2.1
  rw [m_X0_whySilent_r, m_X5_reason_r]
  by_cases c1 : m_X5_placeInRow_r f q = (-6)
  · rw [if_pos (hp.mpr c1), if_pos c1]
    rcases b3 with b3 | b3
    · rw [if_pos (show u (6 + q) 4 = 0 from b3), if_neg (show ¬ m_X5_get_r f q 3 = nI 1 from by rw [← e3, b3]; decide +kernel)]
      by_cases c2 : m_X5_oldest_r f q = (-6)
      · rw [if_pos (ho.mpr c2), if_pos c2]
      · rw [if_neg (fun z => c2 (ho.mp z)), if_neg c2, b1, e2, b2, e1, e4]
        obtain ⟨h1, h2⟩ := oldest_n h.2.1 c2
        rw [hC.cn5] at h2
        rw [(hC.2.2.2.2.1 _ h2).2.1]
        by_cases c3 : m_X5_get_r f q 2 ≤ m_X5_ring_r f q
        · rw [if_neg (Int32.not_lt.mpr c3), if_pos c3]
          split <;> rfl
        · rw [if_pos (Int32.not_le.mp c3), if_neg c3]
          by_cases c4 : m_X5_get_r f q 1 ≤ f 4 - m_X5_frameAt_r f (tn (m_X5_oldest_r f q)) 1
          · rw [if_neg (Int32.not_lt.mpr c4), if_pos c4]
          · rw [if_pos (Int32.not_le.mp c4), if_neg c4]
    · rw [if_neg (show ¬ u (6 + q) 4 = 0 from by rw [b3]; decide +kernel), if_pos (show m_X5_get_r f q 3 = nI 1 from by rw [← e3]; exact b3)]
  · rw [if_neg (fun z => c1 (hp.mp z)), if_neg c1]
def callG (q : Nat) (u : CS) : CS := if m_X0_whySilent_r u (u (6 + q)) = 0 then enterG q u else u
def callF (q : Nat) (f : Nat → Int32) : Nat → Int32 := if m_X5_reason_r f q = 0 then m_X5_doCall_f f q else f
theorem reason_pl {f : Nat → Int32} {q : Nat} (h : m_X5_reason_r f q = 0) : m_X5_placeInRow_r f q = (-6) := by
  unfold m_X5_reason_r at h
  by_cases c : m_X5_placeInRow_r f q = (-6)
  · exact c
  · rw [if_neg c] at h; exact absurd h (by decide)
theorem SIM_cg {u : CS} {f : Nat → Int32} {q : Nat} (hq : q < 3) (h : SIM u f) : SIM (callG q u) (callF q f) := by
  unfold callG callF
  rw [SIM_why hq h]
  by_cases c : m_X5_reason_r f q = 0
  · rw [if_pos c, if_pos c]; exact SIM_call hq h (reason_pl c)
  · rw [if_neg c, if_neg c]; exact h
def tick1 (u : CS) : CS := st2 u 0 (upd (u 0) 2 (u 0 2 + nI 1))
theorem SIM_time {u : CS} {f : Nat → Int32} (h : SIM u f) : SIM (tick1 u) (upd f 4 (f 4 + nI 1)) := by
  obtain ⟨hC, hw, row, hI, hR⟩ := h
  obtain ⟨hM, e4, e5, hS, hF, hQ⟩ := hC
  have w : ∀ c, c ≠ 0 → tick1 u c = u c := fun c hc => st2_n hc
  have w0 : tick1 u 0 = upd (u 0) 2 (u 0 2 + nI 1) := st2_s
  have hg : ∀ j, j ≠ 4 → upd f 4 (f 4 + nI 1) j = f j := fun j hj => pk_un hj
  have hcn : cn (tick1 u) = cn u := by show tn (tick1 u 0 3) = _; rw [w0]; rfl
  have ha : ∀ i w, m_X5_frameAt_r (upd f 4 (f 4 + nI 1)) i w = m_X5_frameAt_r f i w := fun i w => a_hd (by decide)
  have hi : ∀ p k, m_X5_isInRing_r (upd f 4 (f 4 + nI 1)) k p = m_X5_isInRing_r f k p := fun p k => isin_eq (fun w _ => ha k w)
  refine ⟨⟨CM_st0 hM rfl, ?_, ?_, fun j hj => ?_, fun i hi2 => ?_, fun p hp => ?_⟩, WF_4 hw, row, ?_, ?_⟩
  · rw [w0, e4, pk_us, pk_us]
  · rw [w0, hg 5 (by decide)]; exact e5
  · rw [w 1 (by decide), hg j (by omega)]; exact hS j hj
  · rw [hcn] at hi2
    exact FRM_cong (w 2 (by decide)) (w 3 (by decide)) (w 4 (by decide)) (w 5 (by decide)) (fun w _ => ha i w) (hF i hi2)
  · unfold SQ
    rw [w _ (by omega), ring_eq (hg 5 (by decide)) (fun k _ => hi p k), oldest_eq (hg 5 (by decide)) (fun k _ => hi p k)]
    exact ⟨fun w hw => by rw [g_hd (by decide)]; exact (hQ p hp).1 w hw, (hQ p hp).2⟩
  · refine ⟨(hg 6 (by decide)).trans hI.1, fun i y hy => (hg _ (by omega)).trans (hI.2.1 i y hy), hI.2.2⟩
  · exact SR_cong hR (fun q hq => by rw [w _ (by omega)])
theorem tick_G (u : CS) : m_X0_tick_u u = tick1 (callG 2 (callG 1 (callG 0 (m_X0_poll_u u)))) ∧ m_X0_tick_r u = m_X0_poll_r u := by
  obtain ⟨v, hv⟩ : ∃ v, m_X0_poll_u u = v := ⟨_, rfl⟩
  rw [m_X0_tick_u, m_X0_tick_r, hv, enter_0]
  unfold callG
  by_cases c0 : m_X0_whySilent_r v (v 6) = 0
  · rw [if_pos c0, if_pos c0, if_pos (show m_X0_whySilent_r v (v (6 + 0)) = 0 from c0)]
    obtain ⟨v0, hv0⟩ : ∃ v0, enterG 0 v = v0 := ⟨_, rfl⟩
    rw [hv0, enter_1]
    by_cases c1 : m_X0_whySilent_r v0 (v0 7) = 0
    · rw [if_pos c1, if_pos c1, if_pos (show m_X0_whySilent_r v0 (v0 (6 + 1)) = 0 from c1)]
      obtain ⟨v1, hv1⟩ : ∃ v1, enterG 1 v0 = v1 := ⟨_, rfl⟩
      rw [hv1]
      by_cases c2 : m_X0_whySilent_r v1 (v1 8) = 0
      · rw [if_pos c2, if_pos c2, if_pos (show m_X0_whySilent_r v1 (v1 (6 + 2)) = 0 from c2)]; exact ⟨rfl, rfl⟩
      · rw [if_neg c2, if_neg c2, if_neg (show ¬ m_X0_whySilent_r v1 (v1 (6 + 2)) = 0 from c2)]; exact ⟨rfl, rfl⟩
    · rw [if_neg c1, if_neg c1, if_neg (show ¬ m_X0_whySilent_r v0 (v0 (6 + 1)) = 0 from c1)]
      by_cases c2 : m_X0_whySilent_r v0 (v0 8) = 0
      · rw [if_pos c2, if_pos c2, if_pos (show m_X0_whySilent_r v0 (v0 (6 + 2)) = 0 from c2)]; exact ⟨rfl, rfl⟩
      · rw [if_neg c2, if_neg c2, if_neg (show ¬ m_X0_whySilent_r v0 (v0 (6 + 2)) = 0 from c2)]; exact ⟨rfl, rfl⟩
  · rw [if_neg c0, if_neg c0, if_neg (show ¬ m_X0_whySilent_r v (v (6 + 0)) = 0 from c0), enter_1]
    by_cases c1 : m_X0_whySilent_r v (v 7) = 0
    · rw [if_pos c1, if_pos c1, if_pos (show m_X0_whySilent_r v (v (6 + 1)) = 0 from c1)]
      obtain ⟨v1, hv1⟩ : ∃ v1, enterG 1 v = v1 := ⟨_, rfl⟩
      rw [hv1]
      by_cases c2 : m_X0_whySilent_r v1 (v1 8) = 0
      · rw [if_pos c2, if_pos c2, if_pos (show m_X0_whySilent_r v1 (v1 (6 + 2)) = 0 from c2)]; exact ⟨rfl, rfl⟩
      · rw [if_neg c2, if_neg c2, if_neg (show ¬ m_X0_whySilent_r v1 (v1 (6 + 2)) = 0 from c2)]; exact ⟨rfl, rfl⟩
    · rw [if_neg c1, if_neg c1, if_neg (show ¬ m_X0_whySilent_r v (v (6 + 1)) = 0 from c1)]
      by_cases c2 : m_X0_whySilent_r v (v 8) = 0
      · rw [if_pos c2, if_pos c2, if_pos (show m_X0_whySilent_r v (v (6 + 2)) = 0 from c2)]; exact ⟨rfl, rfl⟩
      · rw [if_neg c2, if_neg c2, if_neg (show ¬ m_X0_whySilent_r v (v (6 + 2)) = 0 from c2)]; exact ⟨rfl, rfl⟩
def pollF (f : Nat → Int32) : Nat → Int32 := if tn (f 6) ≤ 0 then f else m_X5_polls_f f
theorem upd4 (f : Nat → Int32) : upd f 4 ((f 4) + (nI 1)) = upd f 4 (f 4 + nI 1) := rfl
theorem tick_F0 (v : Nat → Int32) : (if (m_X5_reason_r v 0) = 0 then (if (m_X5_reason_r (m_X5_doCall_f v 0) 1) = 0 then (if (m_X5_reason_r (m_X5_doCall_f (m_X5_doCall_f v 0) 1) 2) = 0 then upd (m_X5_doCall_f (m_X5_doCall_f (m_X5_doCall_f v 0) 1) 2) 4 (((m_X5_doCall_f (m_X5_doCall_f (m_X5_doCall_f v 0) 1) 2) 4) + (nI 1)) else upd (m_X5_doCall_f (m_X5_doCall_f v 0) 1) 4 (((m_X5_doCall_f (m_X5_doCall_f v 0) 1) 4) + (nI 1))) else if (m_X5_reason_r (m_X5_doCall_f v 0) 2) = 0 then upd (m_X5_doCall_f (m_X5_doCall_f v 0) 2) 4 (((m_X5_doCall_f (m_X5_doCall_f v 0) 2) 4) + (nI 1)) else upd (m_X5_doCall_f v 0) 4 (((m_X5_doCall_f v 0) 4) + (nI 1))) else if (m_X5_reason_r v 1) = 0 then (if (m_X5_reason_r (m_X5_doCall_f v 1) 2) = 0 then upd (m_X5_doCall_f (m_X5_doCall_f v 1) 2) 4 (((m_X5_doCall_f (m_X5_doCall_f v 1) 2) 4) + (nI 1)) else upd (m_X5_doCall_f v 1) 4 (((m_X5_doCall_f v 1) 4) + (nI 1))) else if (m_X5_reason_r v 2) = 0 then upd (m_X5_doCall_f v 2) 4 (((m_X5_doCall_f v 2) 4) + (nI 1)) else upd v 4 ((v 4) + (nI 1))) = upd (callF 2 (callF 1 (callF 0 v))) 4 (callF 2 (callF 1 (callF 0 v)) 4 + nI 1) := by
  unfold callF
  by_cases c0 : m_X5_reason_r v 0 = 0
  · rw [if_pos c0, if_pos c0]
    obtain ⟨v0, hv0⟩ : ∃ v0, m_X5_doCall_f v 0 = v0 := ⟨_, rfl⟩
    rw [hv0]
    by_cases c1 : m_X5_reason_r v0 1 = 0
    · rw [if_pos c1, if_pos c1]
      obtain ⟨v1, hv1⟩ : ∃ v1, m_X5_doCall_f v0 1 = v1 := ⟨_, rfl⟩
      rw [hv1]
      by_cases c2 : m_X5_reason_r v1 2 = 0
      · rw [if_pos c2, if_pos c2]
      · rw [if_neg c2, if_neg c2]
    · rw [if_neg c1, if_neg c1]
      by_cases c2 : m_X5_reason_r v0 2 = 0
      · rw [if_pos c2, if_pos c2]
      · rw [if_neg c2, if_neg c2]
  · rw [if_neg c0, if_neg c0]
    by_cases c1 : m_X5_reason_r v 1 = 0
    · rw [if_pos c1, if_pos c1]
      obtain ⟨v1, hv1⟩ : ∃ v1, m_X5_doCall_f v 1 = v1 := ⟨_, rfl⟩
      rw [hv1]
      by_cases c2 : m_X5_reason_r v1 2 = 0
      · rw [if_pos c2, if_pos c2]
      · rw [if_neg c2, if_neg c2]
    · rw [if_neg c1, if_neg c1]
      by_cases c2 : m_X5_reason_r v 2 = 0
      · rw [if_pos c2, if_pos c2]
      · rw [if_neg c2, if_neg c2]
theorem tick_F (f : Nat → Int32) : m_X5_tick_f f = upd (callF 2 (callF 1 (callF 0 (pollF f)))) 4 (callF 2 (callF 1 (callF 0 (pollF f))) 4 + nI 1) := by
  rw [← tick_F0, m_X5_tick_f, pollF]
  by_cases c : tn (f 6) ≤ 0
  · rw [if_pos c, if_pos c]
  · rw [if_neg c, if_neg c]
theorem CORE_all {u : CS} {f : Nat → Int32} {w : Nat} (h : CORE u f) (hw : w < 10) : m_X5_allOf_r f w = u 6 (gq w) + u 7 (gq w) + u 8 (gq w) := by
  have h0 : u 6 (gq w) = m_X5_get_r f 0 w := (h.2.2.2.2.2 0 (by decide)).1 w hw
  have h1 : u 7 (gq w) = m_X5_get_r f 1 w := (h.2.2.2.2.2 1 (by decide)).1 w hw
  have h2 : u 8 (gq w) = m_X5_get_r f 2 w := (h.2.2.2.2.2 2 (by decide)).1 w hw
  rw [m_X5_allOf_r, h0, h1, h2]
theorem callG_8 {q : Nat} {u : CS} : ∀ p, callG q u (6 + p) 8 = u (6 + p) 8 := by
  intro p
  unfold callG enterG
  split
  · by_cases e : p = q
    · subst e; rw [st2_s]; rfl
    · rw [st2_n (by omega)]
  · rfl
theorem callF_5 {u : CS} {q : Nat} {f : Nat → Int32} (hq : q < 3) (h : SIM u f) : m_X5_allOf_r (callF q f) 5 = m_X5_allOf_r f 5 := by
  rw [CORE_all (SIM_cg hq h).1 (by decide), CORE_all h.1 (by decide)]
  have h0 : callG q u 6 8 = u 6 8 := callG_8 0
  have h1 : callG q u 7 8 = u 7 8 := callG_8 1
  have h2 : callG q u 8 8 = u 8 8 := callG_8 2
  show callG q u 6 8 + callG q u 7 8 + callG q u 8 8 = u 6 8 + u 7 8 + u 8 8
  rw [h0, h1, h2]
theorem SIM_pollF {u : CS} {f : Nat → Int32} (h : SIM u f) : SIM (m_X0_poll_u u) (pollF f) ∧ m_X5_allOf_r (pollF f) 5 = m_X5_allOf_r f 5 + m_X0_poll_r u := by
  unfold pollF
  by_cases c : tn (f 6) ≤ 0
  · obtain ⟨h1, h2⟩ := poll_nil h c
    rw [if_pos c, h1, h2]
    exact ⟨h, (Int32.add_zero _).symm⟩
  · rw [if_neg c]
    exact SIM_poll h c
theorem SIM_tick {u : CS} {f : Nat → Int32} (h : SIM u f) : SIM (m_X0_tick_u u) (m_X5_tick_f f) ∧ m_X5_allOf_r (m_X5_tick_f f) 5 = m_X5_allOf_r f 5 + m_X0_tick_r u := by
  obtain ⟨h1, h2⟩ := SIM_pollF h
  have g0 := SIM_cg (q := 0) (by decide) h1
  have g1 := SIM_cg (q := 1) (by decide) g0
  have g2 := SIM_cg (q := 2) (by decide) g1
  obtain ⟨t1, t2⟩ := tick_G u
  rw [t1, t2, tick_F]
  refine ⟨SIM_time g2, ?_⟩
  have e : ∀ v : Nat → Int32, m_X5_allOf_r (upd v 4 (v 4 + nI 1)) 5 = m_X5_allOf_r v 5 := fun v => rfl
  rw [e, callF_5 (by decide) g1, callF_5 (by decide) g0, callF_5 (by decide) h1, h2]
theorem SIM_run : ∀ (n : Nat) {u : CS} {f : Nat → Int32}, SIM u f → SIM (lp_run n u) (lp_ticks n f) ∧ ∀ t : Int32, lp_runR n u t = t + (m_X5_allOf_r (lp_ticks n f) 5 - m_X5_allOf_r f 5) := by
  intro n
  induction n with
  | zero =>
    intro u f h
    refine ⟨h, fun t => ?_⟩
    rw [lp_runR, lp_ticks, Int32.sub_self]
    exact (Int32.add_zero t).symm
  | succ n ih =>
    intro u f h
    obtain ⟨h1, h2⟩ := SIM_tick h
    obtain ⟨g1, g2⟩ := ih h1
    refine ⟨g1, fun t => ?_⟩
    rw [lp_runR, g2, lp_ticks, h2]
    obtain ⟨a, ha⟩ : ∃ a, m_X5_allOf_r (lp_ticks n (m_X5_tick_f f)) 5 = a := ⟨_, rfl⟩
    obtain ⟨b, hb⟩ : ∃ b, m_X5_allOf_r f 5 = b := ⟨_, rfl⟩
    obtain ⟨c, hc⟩ : ∃ c, m_X0_tick_r u = c := ⟨_, rfl⟩
    rw [ha, hb, hc, Int32.sub_eq_add_neg, Int32.sub_eq_add_neg, Int32.neg_add, Int32.sub_eq_add_neg]
    have e : t + c + (a + (-b + -c)) = t + (a + -b) + (c + -c) := by ac_rfl
    rw [e, Int32.add_right_neg]
    exact Int32.add_zero _
theorem SIM_ticks {u : CS} {f : Nat → Int32} (n : Nat) (h : SIM u f) : SIM (m_X0_runTicks_u u n) (m_X5_ticks_f f n) ∧ m_X0_runTicks_r u n = m_X5_ticks_r f n := by
  obtain ⟨h1, h2⟩ := SIM_run n h
  refine ⟨h1, ?_⟩
  rw [m_X0_runTicks_r, h2, m_X5_ticks_r]
  exact Int32.zero_add _
