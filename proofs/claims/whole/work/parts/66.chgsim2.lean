/-! Masks, calls by hand, ticks, side by side -/
theorem SIM_mask {u : CS} {f : Nat → Int32} {j : Nat} {v : Int32} (h : SIM u f) (hj : j < 3) (hv : BB v) : SIM (st2 u (6 + j) (upd (u (6 + j)) 4 v)) (m_X5_lays_f f j 3 v) := by
  obtain ⟨hC, hw, row, hI, hR⟩ := h
  obtain ⟨b0, b1, b2, b3⟩ := hC.2.2.2.2.2 j hj
  refine ⟨?_, WF_ag hw (AG_lays (AG.rf f)), row, RI_ag hI (AG_lays (AG.rf f)), SR_cong hR (fun q hq => ?_)⟩
  · refine CORE_q hj hC (fun i hi => AG_lays (AG.rf f) i (by omega)) (fun i _ w _ => by rw [a_lays hj (by decide)]) (fun p hp hn w hw => by rw [g_lays_q hn (by decide) hw]) ?_ rfl rfl hv
    refine lt10 ?_ ?_ ?_ ?_ ?_ ?_ ?_ ?_ ?_ ?_
    · rw [g_lays_w (by decide)]; exact b0 0 (by decide)
    · rw [g_lays_w (by decide)]; exact b0 1 (by decide)
    · rw [g_lays_w (by decide)]; exact b0 2 (by decide)
    · rw [g_lays_s]; rfl
    · rw [g_lays_w (by decide)]; exact b0 4 (by decide)
    · rw [g_lays_w (by decide)]; exact b0 5 (by decide)
    · rw [g_lays_w (by decide)]; exact b0 6 (by decide)
    · rw [g_lays_w (by decide)]; exact b0 7 (by decide)
    · rw [g_lays_w (by decide)]; exact b0 8 (by decide)
    · rw [g_lays_w (by decide)]; exact b0 9 (by decide)
  · by_cases e : q = j
    · subst e; rw [st2_s]; rfl
    · rw [st2_n (by omega)]
theorem ST_lays3 {f : Nat → Int32} {j : Nat} {v : Int32} (h : ST f) (hj : j < 3) : ST (m_X5_lays_f f j 3 v) := by
  refine ST_cong h (fun i hi => AG_lays (AG.rf f) i (by omega)) (fun q hq => ?_)
  by_cases e : q = j
  · subst e; exact ⟨g_lays_w (by decide), g_lays_w (by decide)⟩
  · exact ⟨g_lays_q e (by decide) (by decide), g_lays_q e (by decide) (by decide)⟩
theorem cmk_eq {u : CS} {j : Nat} (hj : j < 3) (hb : BB (u (6 + j) 4)) : m_X0_changeMask_r u (nI j) = nI 1 - u (6 + j) 4 ∧ m_X0_changeMask_u u (nI j) = st2 u (6 + j) (upd (u (6 + j)) 4 (nI 1 - u (6 + j) 4)) ∧ BB (nI 1 - u (6 + j) 4) := by
  have e0 : nI 1 - nI 0 = nI 1 := by decide +kernel
  have e1 : nI 1 - nI 1 = nI 0 := by decide +kernel
  rw [m_X0_changeMask_r, m_X0_changeMask_u, if_neg (isq_t hj), if_neg (isq_t hj)]
  rcases (by omega : j = 0 ∨ j = 1 ∨ j = 2) with rfl | rfl | rfl
  · change BB (u 6 4) at hb
    show _ = nI 1 - u 6 4 ∧ _ = st2 u 6 (upd (u 6) 4 (nI 1 - u 6 4)) ∧ BB (nI 1 - u 6 4)
    rw [if_pos rfl, if_pos rfl]
    rcases hb with b | b
    · rw [b, if_pos (show nI 0 = 0 from rfl), if_pos (show nI 0 = 0 from rfl), e0]; exact ⟨rfl, rfl, Or.inr rfl⟩
    · rw [b, if_neg (show ¬ nI 1 = 0 by decide +kernel), if_neg (show ¬ nI 1 = 0 by decide +kernel), e1]; exact ⟨rfl, rfl, Or.inl rfl⟩
  · change BB (u 7 4) at hb
    show _ = nI 1 - u 7 4 ∧ _ = st2 u 7 (upd (u 7) 4 (nI 1 - u 7 4)) ∧ BB (nI 1 - u 7 4)
    have n10 : ¬ nI 1 = nI 0 := by decide +kernel
    have n11 : nI 1 = nI 1 := rfl
    rw [if_neg n10, if_neg n10, if_pos n11, if_pos n11]
    rcases hb with b | b
    · rw [b, if_pos (show nI 0 = 0 from rfl), if_pos (show nI 0 = 0 from rfl), e0]; exact ⟨rfl, rfl, Or.inr rfl⟩
    · rw [b, if_neg (show ¬ nI 1 = 0 by decide +kernel), if_neg (show ¬ nI 1 = 0 by decide +kernel), e1]; exact ⟨rfl, rfl, Or.inl rfl⟩
  · change BB (u 8 4) at hb
    show _ = nI 1 - u 8 4 ∧ _ = st2 u 8 (upd (u 8) 4 (nI 1 - u 8 4)) ∧ BB (nI 1 - u 8 4)
    have n20 : ¬ nI 2 = nI 0 := by decide +kernel
    have n21 : ¬ nI 2 = nI 1 := by decide +kernel
    rw [if_neg n20, if_neg n20, if_neg n21, if_neg n21]
    rcases hb with b | b
    · rw [b, if_pos (show nI 0 = 0 from rfl), if_pos (show nI 0 = 0 from rfl), e0]; exact ⟨rfl, rfl, Or.inr rfl⟩
    · rw [b, if_neg (show ¬ nI 1 = 0 by decide +kernel), if_neg (show ¬ nI 1 = 0 by decide +kernel), e1]; exact ⟨rfl, rfl, Or.inl rfl⟩
theorem BB_nn {x : Int32} (h : BB x) : ¬ x < 0 := by
  rcases h with rfl | rfl <;> decide
theorem S_mask {u : CS} {z f hi : Nat → Int32} {x : Int32} (h : SIM u f) (hs : ST f) : m_X0_changeMask_r u x = m_X5_mask_r f x ∧ SIM (m_X0_changeMask_u u x) (m_X5_mask_f f x) ∧ ST (m_X5_mask_f f x) ∧ CHG z f hi (m_X5_mask_r f x) (m_X5_mask_z z x) (m_X5_mask_f f x) (m_X5_mask_hi z f hi x) := by
  by_cases cq : m_X5_isQueue_r x = 0
  · have cq4 := (isq_eq x).mpr cq
    rw [m_X5_mask_r, m_X5_mask_f, m_X5_mask_z, m_X5_mask_hi, if_pos cq, if_pos cq, if_pos cq, if_pos cq, m_X0_changeMask_r, m_X0_changeMask_u, if_pos cq4, if_pos cq4]
    exact ⟨rfl, h, hs, Or.inl ⟨by decide, rfl, rfl, rfl⟩⟩
  · obtain ⟨j, hj, rfl⟩ := isqj5 cq
    have ej : tn (nI j) = j := tn_of rfl (by omega)
    obtain ⟨b0, b1, b2, b3⟩ := h.1.2.2.2.2.2 j hj
    have e3 : u (6 + j) 4 = m_X5_get_r f j 3 := b0 3 (by decide)
    obtain ⟨k1, k2, k3⟩ := cmk_eq hj b3
    rw [m_X5_mask_r, m_X5_mask_f, m_X5_mask_z, m_X5_mask_hi, if_neg cq, if_neg cq, if_neg cq, if_neg cq, ej, k1, k2, g_lays_s, e3]
    rw [e3] at k3
    exact ⟨rfl, SIM_mask h hj k3, ST_lays3 hs hj, Or.inr ⟨BB_nn k3, rfl, rfl⟩⟩
/-! how many are in a ring, and the oldest -/
theorem old_ring (f : Nat → Int32) (q : Nat) : ∀ (r i n : Nat), i + r < 2 ^ 31 → (lp_old f q r i = (-6) ↔ lp_ring f q r i n = n) := by
  intro r
  induction r with
  | zero => intro i n _; exact ⟨fun _ => rfl, fun _ => rfl⟩
  | succ r ih =>
    intro i n hi
    rw [lp_old, lp_ring]
    by_cases c : m_X5_isInRing_r f i q = 0
    · rw [if_pos c, if_pos c]; exact ih _ _ (by omega)
    · rw [if_neg c, if_neg c]
      refine ⟨fun e => absurd e (k_neg (by omega) (by decide)), fun e => ?_⟩
      rw [ring_ac] at e
      have : ∀ (r i n : Nat), n ≤ lp_ring f q r i n := by
        intro r
        induction r with
        | zero => intro i n; exact Nat.le_refl _
        | succ r ih2 =>
          intro i n
          rw [lp_ring]
          split
          · exact ih2 _ _
          · exact Nat.le_trans (by omega) (ih2 _ _)
      have := this r (i + 1) n
      omega
theorem oldest_ring {f : Nat → Int32} {q : Nat} (hw : WF f) : m_X5_oldest_r f q = (-6) ↔ m_X5_ring_r f q = 0 := by
  have h := old_ring f q (tn (f 5)) 0 0 (by have := hw.1.2; omega)
  have hl := lp_ring_le f q (tn (f 5)) 0 0
  have h4 := hw.1.2
  unfold m_X5_oldest_r m_X5_ring_r
  rw [h]
  constructor
  · intro e; rw [e]; rfl
  · intro e
    have e2 : nI (lp_ring f q (tn (f 5)) 0 0) = nI 0 := e
    exact (nI_eq (by omega) (by decide)).mp e2
theorem ch_eq {u : CS} {f : Nat → Int32} {j : Nat} (h : SIM u f) (hj : j < 3) : (m_X5_placeInRow_r f j = (-6) ∧ ¬ m_X5_oldest_r f j = (-6) → m_X0_callByHand_r u (nI j) = m_X0_rowLength_r u ∧ m_X0_callByHand_u u (nI j) = enterG j u) ∧ (¬ (m_X5_placeInRow_r f j = (-6) ∧ ¬ m_X5_oldest_r f j = (-6)) → m_X0_callByHand_r u (nI j) = (-5) ∧ m_X0_callByHand_u u (nI j) = u) := by
  have hp := called_pl hj h
  have ho := oldest_ring (q := j) h.2.1
  rw [← hp, ho, ← (h.1.2.2.2.2.2 j hj).2.1, m_X0_callByHand_r, m_X0_callByHand_u, if_neg (isq_t hj), if_neg (isq_t hj), enter_0, enter_1, enter_2]
  rcases (by omega : j = 0 ∨ j = 1 ∨ j = 2) with rfl | rfl | rfl
  · rw [if_pos rfl, if_pos rfl]
    show (m_X3_isCalled_r (u 6) = 0 ∧ ¬ u 6 5 = 0 → _) ∧ (¬ (m_X3_isCalled_r (u 6) = 0 ∧ ¬ u 6 5 = 0) → _)
    by_cases c1 : m_X3_isCalled_r (u 6) = 0
    · rw [if_pos c1, if_pos c1]
      by_cases c2 : u 6 5 = 0
      · rw [if_pos c2, if_pos c2]; exact ⟨fun n => absurd c2 n.2, fun _ => ⟨rfl, rfl⟩⟩
      · rw [if_neg c2, if_neg c2]; exact ⟨fun _ => ⟨rfl, rfl⟩, fun n => absurd ⟨c1, c2⟩ n⟩
    · rw [if_neg c1, if_neg c1]; exact ⟨fun n => absurd n.1 c1, fun _ => ⟨rfl, rfl⟩⟩
  · have n10 : ¬ nI 1 = nI 0 := by decide +kernel
    rw [if_neg n10, if_pos rfl, if_neg n10, if_pos rfl]
    show (m_X3_isCalled_r (u 7) = 0 ∧ ¬ u 7 5 = 0 → _) ∧ (¬ (m_X3_isCalled_r (u 7) = 0 ∧ ¬ u 7 5 = 0) → _)
    by_cases c1 : m_X3_isCalled_r (u 7) = 0
    · rw [if_pos c1, if_pos c1]
      by_cases c2 : u 7 5 = 0
      · rw [if_pos c2, if_pos c2]; exact ⟨fun n => absurd c2 n.2, fun _ => ⟨rfl, rfl⟩⟩
      · rw [if_neg c2, if_neg c2]; exact ⟨fun _ => ⟨rfl, rfl⟩, fun n => absurd ⟨c1, c2⟩ n⟩
    · rw [if_neg c1, if_neg c1]; exact ⟨fun n => absurd n.1 c1, fun _ => ⟨rfl, rfl⟩⟩
  · have n20 : ¬ nI 2 = nI 0 := by decide +kernel
    have n21 : ¬ nI 2 = nI 1 := by decide +kernel
    rw [if_neg n20, if_neg n21, if_neg n20, if_neg n21]
    show (m_X3_isCalled_r (u 8) = 0 ∧ ¬ u 8 5 = 0 → _) ∧ (¬ (m_X3_isCalled_r (u 8) = 0 ∧ ¬ u 8 5 = 0) → _)
    by_cases c1 : m_X3_isCalled_r (u 8) = 0
    · rw [if_pos c1, if_pos c1]
      by_cases c2 : u 8 5 = 0
      · rw [if_pos c2, if_pos c2]; exact ⟨fun n => absurd c2 n.2, fun _ => ⟨rfl, rfl⟩⟩
      · rw [if_neg c2, if_neg c2]; exact ⟨fun _ => ⟨rfl, rfl⟩, fun n => absurd ⟨c1, c2⟩ n⟩
    · rw [if_neg c1, if_neg c1]; exact ⟨fun n => absurd n.1 c1, fun _ => ⟨rfl, rfl⟩⟩
theorem ST_call {u : CS} {f : Nat → Int32} {q : Nat} (hq : q < 3) (h : SIM u f) (hs : ST f) (hr : m_X5_placeInRow_r f q = (-6)) : ST (m_X5_doCall_f f q) := by
  have h' := SIM_call hq h hr
  have e : ∀ p, p < 3 → ∀ i, i < 2 → enterG q u (6 + p) i = u (6 + p) i := by
    intro p hp i hi
    unfold enterG
    by_cases e : p = q
    · subst e; rw [st2_s, pk_un (by omega), pk_un (by omega), pk_un (by omega)]
    · rw [st2_n (by omega)]
  refine ST_cong hs (fun j hj => AS_call (AS.rf f) j (Or.inl hj)) (fun p hp => ⟨?_, ?_⟩)
  · have a := (h'.1.2.2.2.2.2 p hp).1 0 (by decide)
    have b := (h.1.2.2.2.2.2 p hp).1 0 (by decide)
    rw [← a, ← b]
    exact e p hp 0 (by decide)
  · have a := (h'.1.2.2.2.2.2 p hp).1 1 (by decide)
    have b := (h.1.2.2.2.2.2 p hp).1 1 (by decide)
    rw [← a, ← b]
    exact e p hp 1 (by decide)
theorem S_call {u : CS} {z f hi : Nat → Int32} {x : Int32} (h : SIM u f) (hs : ST f) : m_X0_callByHand_r u x = m_X5_call_r f x ∧ SIM (m_X0_callByHand_u u x) (m_X5_call_f f x) ∧ ST (m_X5_call_f f x) ∧ CHG z f hi (m_X5_call_r f x) (m_X5_call_z z f x) (m_X5_call_f f x) (m_X5_call_hi z f hi x) := by
  by_cases cq : m_X5_isQueue_r x = 0
  · have cq4 := (isq_eq x).mpr cq
    rw [m_X5_call_r, m_X5_call_f, m_X5_call_z, m_X5_call_hi, if_pos cq, if_pos cq, if_pos cq, if_pos cq, m_X0_callByHand_r, m_X0_callByHand_u, if_pos cq4, if_pos cq4]
    exact ⟨rfl, h, hs, Or.inl ⟨by decide, rfl, rfl, rfl⟩⟩
  · obtain ⟨j, hj, rfl⟩ := isqj5 cq
    have ej : tn (nI j) = j := tn_of rfl (by omega)
    obtain ⟨k1, k2⟩ := ch_eq h hj
    rw [m_X5_call_r, m_X5_call_f, m_X5_call_z, m_X5_call_hi, if_neg cq, if_neg cq, if_neg cq, if_neg cq, ej]
    by_cases c1 : m_X5_placeInRow_r f j = (-6)
    · rw [if_pos c1, if_pos c1, if_pos c1, if_pos c1]
      by_cases c2 : m_X5_oldest_r f j = (-6)
      · have k := k2 (fun n => n.2 c2)
        rw [if_pos c2, if_pos c2, if_pos c2, if_pos c2, k.1, k.2]
        exact ⟨rfl, h, hs, Or.inl ⟨by decide, rfl, rfl, rfl⟩⟩
      · have k := k1 ⟨c1, c2⟩
        have h' := SIM_call hj h c1
        rw [if_neg c2, if_neg c2, if_neg c2, if_neg c2, k.1, k.2]
        obtain ⟨-, -, row, hI, hR⟩ := id h
        have hl := hI.le
        have hn : j ∉ row := fun hm => by
          obtain ⟨i, hi, e⟩ := place_in hI hm
          have hil := (List.getElem?_eq_some_iff.mp hi).1
          rw [e] at c1
          exact k_neg (by omega) (by decide) c1
        have e6 := (RI_call hI hj hn).1
        have er : m_X5_doCall_f f j 6 - nI 1 = nI row.length := by rw [e6, List.length_append, List.length_singleton, pk_sub (by omega), Nat.add_sub_cancel]
        rw [er, rowLength_eq hR hI.2.2.1 hI.2.2.2]
        exact ⟨rfl, h', ST_call hj h hs c1, Or.inr ⟨nI_pos (by omega), rfl, rfl⟩⟩
    · have k := k2 (fun n => c1 n.1)
      rw [if_neg c1, if_neg c1, if_neg c1, if_neg c1, k.1, k.2]
      exact ⟨rfl, h, hs, Or.inl ⟨by decide, rfl, rfl, rfl⟩⟩
theorem aret_eq {x : Int32} : m_X5_areTicks_r x = 0 ↔ (x < nI 1 ∨ nI 99 < x) := in0 (lo := nI 1) (up := nI 99) (by decide) (by decide)
theorem pt_eq {u : CS} {f : Nat → Int32} {x : Int32} (h : SIM u f) : (m_X5_areTicks_r x = 0 → m_X0_passTicks_r u x = (-2) ∧ m_X0_passTicks_u u x = u) ∧ (¬ m_X5_areTicks_r x = 0 → ¬ f 4 + x ≤ nI 9999 → m_X0_passTicks_r u x = (-5) ∧ m_X0_passTicks_u u x = u) ∧ (¬ m_X5_areTicks_r x = 0 → f 4 + x ≤ nI 9999 → m_X0_passTicks_r u x = m_X0_runTicks_r u (tn x) ∧ m_X0_passTicks_u u x = m_X0_runTicks_u u (tn x)) := by
  have e4 := h.1.2.1
  rw [aret_eq, m_X0_passTicks_r, m_X0_passTicks_u, e4]
  by_cases c1 : x < nI 1
  · rw [if_pos c1, if_pos c1]
    exact ⟨fun _ => ⟨rfl, rfl⟩, fun n => absurd (Or.inl c1) n, fun n => absurd (Or.inl c1) n⟩
  · rw [if_neg c1, if_neg c1]
    by_cases c2 : x ≤ nI 99
    · rw [if_pos c2, if_pos c2]
      have hn : ¬ (x < nI 1 ∨ nI 99 < x) := fun e => by
        rcases e with e | e
        · exact c1 e
        · exact Int32.not_lt.mpr c2 e
      by_cases c3 : f 4 + x ≤ nI 9999
      · rw [if_pos c3, if_pos c3]; exact ⟨fun e => absurd e hn, fun _ e => absurd c3 e, fun _ _ => ⟨rfl, rfl⟩⟩
      · rw [if_neg c3, if_neg c3]; exact ⟨fun e => absurd e hn, fun _ _ => ⟨rfl, rfl⟩, fun _ e => absurd e c3⟩
    · rw [if_neg c2, if_neg c2]
      exact ⟨fun _ => ⟨rfl, rfl⟩, fun n => absurd (Or.inr (Int32.not_le.mp c2)) n, fun n => absurd (Or.inr (Int32.not_le.mp c2)) n⟩
theorem ticks_nn {u : CS} {f : Nat → Int32} {n : Nat} (h : SIM u f) (hs : ST f) (hn : n ≤ 1000) : ¬ m_X0_runTicks_r u n < 0 := by
  obtain ⟨-, g⟩ := ST_run n h hs
  obtain ⟨t', ht', e⟩ := g 0
  rw [m_X0_runTicks_r, e]
  exact nI_pos (by omega)
theorem areT_n {x : Int32} (h : ¬ m_X5_areTicks_r x = 0) : x = nI (tn x) ∧ 1 ≤ tn x ∧ tn x ≤ 99 := in_n (a := 1) (b := 99) (by decide) (by decide) (by decide) h
theorem S_pass {u : CS} {z f hi : Nat → Int32} {x : Int32} (h : SIM u f) (hs : ST f) : m_X0_passTicks_r u x = m_X5_pass_r f x ∧ SIM (m_X0_passTicks_u u x) (m_X5_pass_f f x) ∧ ST (m_X5_pass_f f x) ∧ CHG z f hi (m_X5_pass_r f x) (m_X5_pass_z z f x) (m_X5_pass_f f x) (m_X5_pass_hi z f hi x) := by
  obtain ⟨k1, k2, k3⟩ := pt_eq (x := x) h
  rw [m_X5_pass_r, m_X5_pass_f, m_X5_pass_z, m_X5_pass_hi]
  by_cases c1 : m_X5_areTicks_r x = 0
  · rw [if_pos c1, if_pos c1, if_pos c1, if_pos c1, (k1 c1).1, (k1 c1).2]
    exact ⟨rfl, h, hs, Or.inl ⟨by decide, rfl, rfl, rfl⟩⟩
  · rw [if_neg c1, if_neg c1, if_neg c1, if_neg c1]
    by_cases c2 : f 4 + x ≤ nI 9999
    · have k := k3 c1 c2
      obtain ⟨g1, g2⟩ := SIM_ticks (tn x) h
      have hx := (areT_n c1).2.2
      rw [if_pos c2, if_pos c2, if_pos c2, if_pos c2, k.1, k.2, ← g2]
      exact ⟨rfl, g1, (ST_run (tn x) h hs).1, Or.inr ⟨ticks_nn h hs (by omega), rfl, rfl⟩⟩
    · have k := k2 c1 c2
      rw [if_neg c2, if_neg c2, if_neg c2, if_neg c2, k.1, k.2]
      exact ⟨rfl, h, hs, Or.inl ⟨by decide, rfl, rfl, rfl⟩⟩
