/-! The tests of the best count come to their ends, and cost the same -/
theorem ring_none {f : Nat → Int32} {q : Nat} : ∀ (r i n : Nat), (∀ k, i ≤ k → k < i + r → m_X5_isInRing_r f k q = 0) → lp_ring f q r i n = n ∧ lp_old f q r i = (-6) := by
  intro r
  induction r with
  | zero => intro i n _; exact ⟨rfl, rfl⟩
  | succ r ih =>
    intro i n h
    rw [lp_ring, lp_old, if_pos (h i (by omega) (by omega)), if_pos (h i (by omega) (by omega))]
    exact ih _ _ (fun k h1 h2 => h k (by omega) (by omega))
def FLj (v : CS) (j : Nat) : Prop := ∀ i, i < cn v → v 2 i = nI j
theorem nofr {v : CS} {g : Nat → Int32} {j p : Nat} (h : CORE v g) (hf : FLj v j) (hj : j < 3) (hp : p < 3) (hn : p ≠ j) : m_X5_oldest_r g p = (-6) ∧ m_X5_ring_r g p = nI 0 := by
  have hi : ∀ k, 0 ≤ k → k < 0 + tn (g 5) → m_X5_isInRing_r g k p = 0 := by
    intro k _ hk
    rw [h.cn5] at hk
    refine Classical.byContradiction (fun c => ?_)
    obtain ⟨-, c2⟩ := isin_t c
    rw [← (h.2.2.2.2.1 k (by omega)).1, hf k (by omega), pk_rem (by omega) (by decide) (by decide)] at c2
    have := (nI_eq (by omega) (by omega)).mp c2
    omega
  obtain ⟨h1, h2⟩ := ring_none (tn (g 5)) 0 0 hi
  exact ⟨h2, by unfold m_X5_ring_r; rw [h1]⟩
theorem no_call {f : Nat → Int32} {p : Nat} (h : m_X5_oldest_r f p = (-6)) : callF p f = f := by
  unfold callF
  rw [if_neg]
  intro e
  unfold m_X5_reason_r at e
  by_cases c1 : m_X5_placeInRow_r f p = (-6)
  · rw [if_pos c1] at e
    by_cases c2 : m_X5_get_r f p 3 = nI 1
    · rw [if_pos c2] at e; exact absurd e (by decide)
    · rw [if_neg c2, if_pos h] at e; exact absurd e (by decide)
  · rw [if_neg c1] at e; exact absurd e (by decide)
theorem poll_k2 (u : CS) : m_X0_poll_u u 2 = u 2 ∧ m_X0_poll_u u 0 = u 0 ∧ ∀ p, p < 3 → m_X0_poll_u u (6 + p) 4 = u (6 + p) 4 := by
  have g0 : ∀ q (r : Nat) (u : CS), lp_pollG q r u 0 = u 0 ∧ ∀ p, p < 3 → lp_pollG q r u (6 + p) 4 = u (6 + p) 4 := by
    intro q r
    induction r with
    | zero => intro u; exact ⟨rfl, fun _ _ => rfl⟩
    | succ r ih =>
      intro u
      rw [lp_pollG]
      split
      · exact ⟨rfl, fun _ _ => rfl⟩
      · obtain ⟨h1, h2⟩ := ih (takeG q u)
        refine ⟨h1.trans ?_, fun p hp => (h2 p hp).trans ?_⟩
        · unfold takeG; rw [st2_n (by omega), st2_n (by decide), st2_n (by decide)]
        · unfold takeG
          by_cases e : p = q
          · subst e; rw [st2_s, m_X0_takeOldest_q, note_eq]; rfl
          · rw [st2_n (by omega), st2_n (by omega), st2_n (by omega)]
  rcases poll_c u with h | ⟨q, r, t, hq, h⟩
  · rw [h]; exact ⟨rfl, rfl, fun _ _ => rfl⟩
  · rw [h, PRG_k (by decide), PRG_k (by decide)]
    refine ⟨(pollG_k r u).1, (g0 q r u).1, fun p hp => ?_⟩
    rw [← (g0 q r u).2 p hp]
    obtain ⟨v, hv⟩ : ∃ v, lp_pollG q r u = v := ⟨_, rfl⟩
    rw [hv]
    have hl := leave_q (q := q) (u := v) p hp 4 (by decide)
    unfold PRG
    split
    · by_cases e : p = q
      · subst e; rw [st2_s, pk_un (by decide)]; exact hl
      · rw [st2_n (by omega)]; exact hl
    · by_cases e : p = q
      · subst e; rw [st2_s, idle_eq, pk_un (by decide), pk_un (by decide)]; exact hl
      · rw [st2_n (by omega)]; exact hl
theorem tick_k2 (u : CS) : m_X0_tick_u u 0 2 = u 0 2 + nI 1 ∧ ∀ p, p < 3 → m_X0_tick_u u (6 + p) 4 = u (6 + p) 4 := by
  obtain ⟨-, h0, h4⟩ := poll_k2 u
  rw [(tick_G u).1]
  constructor
  · show upd (callG 2 (callG 1 (callG 0 (m_X0_poll_u u))) 0) 2 (callG 2 (callG 1 (callG 0 (m_X0_poll_u u))) 0 2 + nI 1) 2 = _
    rw [pk_us, callG_k (by decide), callG_k (by decide), callG_k (by decide), h0]
  · intro p hp
    have c4 : ∀ q v, callG q v (6 + p) 4 = v (6 + p) 4 := by
      intro q v
      unfold callG enterG
      split
      · by_cases e : p = q
        · subst e; rw [st2_s]; rfl
        · rw [st2_n (by omega)]
      · rfl
    unfold tick1
    rw [st2_n (by omega), c4, c4, c4, h4 p hp]
/-- a test of queue j at the time t -/
def TR (j t : Nat) (u : CS) (f : Nat → Int32) : Prop := SIM u f ∧ ST f ∧ f 4 = nI t ∧ FLj u j ∧ (∀ i, i < cn u → ∃ a, a ≤ t ∧ u 3 i = nI a) ∧ u (6 + j) 4 = nI 0 ∧ ∃ row, RI f row ∧ (row = [] ∨ row = [j])
def RN (f : Nat → Int32) (j : Nat) : Nat := tn (m_X5_ring_r f j)
theorem RN_in {u : CS} {f : Nat → Int32} {j t : Nat} (hj : j < 3) (h : TR j t u f) : m_X5_inRings_r f = nI (RN f j) ∧ u (6 + j) 5 = nI (RN f j) ∧ RN f j ≤ 400 := by
  obtain ⟨hS, -, -, hF, -⟩ := h
  obtain ⟨r1, r2⟩ := ring_n (q := j) hS.2.1
  have e : ∀ p, p < 3 → p ≠ j → m_X5_ring_r f p = nI 0 := fun p hp hn => (nofr hS.1 hF hj hp hn).2
  have z : ∀ x : Int32, x + nI 0 = x := fun x => Int32.add_zero x
  have z2 : ∀ x : Int32, nI 0 + x = x := fun x => Int32.zero_add x
  refine ⟨?_, (hS.1.2.2.2.2.2 j hj).2.1.trans r1, r2⟩
  rw [m_X5_inRings_r]
  unfold RN
  rw [← r1]
  rcases (by omega : j = 0 ∨ j = 1 ∨ j = 2) with rfl | rfl | rfl
  · rw [e 1 (by decide) (by decide), e 2 (by decide) (by decide), z, z]
  · rw [e 0 (by decide) (by decide), e 2 (by decide) (by decide), z2, z]
  · rw [e 0 (by decide) (by decide), e 1 (by decide) (by decide), z2, z2]
theorem polls_cnt {q : Nat} (hq : q < 3) : ∀ (r : Nat) (u : CS) (f : Nat → Int32), CORE u f → WF f → RN (lp_polls q r f) q + lp_pollsN q r f = RN f q ∧ (lp_pollsN q r f = r ∨ m_X5_oldest_r (lp_polls q r f) q = (-6)) := by
  intro r
  induction r with
  | zero => intro u f _ _; exact ⟨rfl, Or.inl rfl⟩
  | succ r ih =>
    intro u f h hw
    rw [lp_polls, lp_pollsN]
    by_cases c : m_X5_oldest_r f q = (-6)
    · rw [if_pos c, if_pos c]; exact ⟨rfl, Or.inr c⟩
    · rw [if_neg c, if_neg c]
      obtain ⟨h1, h2⟩ := oldest_n hw c
      have h5c := h.cn5
      have hc := h.1.2.1
      obtain ⟨o, eo⟩ : ∃ o, tn (m_X5_oldest_r f q) = o := ⟨_, rfl⟩
      rw [eo] at h1 h2 ⊢
      obtain ⟨g1, g2⟩ := ih (takeG q u) (m_X5_takes_f f o q) (CORE_take hq h h1 (by omega)) (WF_ag hw AG_takes)
      have hold : lp_old f q (tn (f 5)) 0 = nI o := h1
      obtain ⟨-, -, -, o4⟩ := old_1 (f := f) (g := m_X5_takes_f f o q) (q := q) (by omega) (fun k hk => isin_eq (fun w hw => by rw [takes_a hq hw, if_neg hk])) (isin_1 (takes_a2 hq)) (tn (f 5)) 0 (by omega) hold
      have hr : lp_ring (m_X5_takes_f f o q) q (tn (f 5)) 0 0 + 1 = lp_ring f q (tn (f 5)) 0 0 := ring_1 (fun k hk => isin_eq (fun w hw => by rw [takes_a hq hw, if_neg hk])) (isin_1 (takes_a2 hq)) o4 _ _ _ (by omega) (by omega)
      have e5 : m_X5_takes_f f o q 5 = f 5 := AG_takes 5 (by decide)
      have hl := lp_ring_le f q (tn (f 5)) 0 0
      have e1 : RN (m_X5_takes_f f o q) q + 1 = RN f q := by
        unfold RN m_X5_ring_r
        rw [e5, tn_of rfl (by omega), tn_of rfl (by omega), hr]
      refine ⟨by omega, ?_⟩
      rcases g2 with g2 | g2
      · exact Or.inl (by omega)
      · exact Or.inr g2
theorem polls_fr {f : Nat → Int32} {q : Nat} {rest : List Nat} (hI : RI f (q :: rest)) : RN (m_X5_polls_f f) q = RN (lp_polls q (tn (f 1)) f) q ∧ m_X5_oldest_r (m_X5_polls_f f) q = m_X5_oldest_r (lp_polls q (tn (f 1)) f) q := by
  have hl := hI.le
  simp only [List.length_cons] at hl
  have hq : q < 3 := hI.2.2.2 q (by simp)
  have e7 : tn (f 7) = q := tn_of (hI.2.1 0 q rfl) (by omega)
  have t6 := hI.tn6
  simp only [List.length_cons] at t6
  obtain ⟨f1, hf1⟩ : ∃ f1, lp_polls q (tn (f 1)) f = f1 := ⟨_, rfl⟩
  rw [m_X5_polls_f, e7, t6, hf1, m_pollsrest_f2, Nat.add_sub_cancel]
  obtain ⟨f2, hf2e⟩ : ∃ f2, lp_shift rest.length 1 f1 = f2 := ⟨_, rfl⟩
  have sh : ∀ j, j < 7 ∨ 9 ≤ j → f2 j = f1 j := fun j hj => by rw [← hf2e, shift_at _ _ _ _ (Nat.le_refl 1), if_neg (by omega)]
  rw [hf2e]
  have key : ∀ g : Nat → Int32, g 5 = f1 5 → (∀ i w, m_X5_frameAt_r g i w = m_X5_frameAt_r f1 i w) → RN g q = RN f1 q ∧ m_X5_oldest_r g q = m_X5_oldest_r f1 q := by
    intro g g5 ga
    unfold RN
    rw [ring_eq g5 (fun k _ => isin_eq (fun w _ => ga k w)), oldest_eq g5 (fun k _ => isin_eq (fun w _ => ga k w))]
    exact ⟨rfl, rfl⟩
  split
  · exact key _ ((pk_un (by omega)).trans (sh 5 (by decide))) (fun i w => (pk_un (by omega)).trans (sh _ (by omega)))
  · rw [leaves_eq]
    refine key _ ?_ (fun i w => ?_)
    · exact (AG_lays (AG_lays (AG.rf _)) 5 (by decide)).trans ((pk_un (by omega)).trans ((pk_un (by omega)).trans (sh 5 (by decide))))
    · rw [a_lays hq (by decide), a_lays hq (by decide)]
      exact (pk_un (by omega)).trans ((pk_un (by omega)).trans (sh _ (by omega)))
/-- how many ticks a test may still take -/
def MB (m j t : Nat) (u : CS) (f : Nat → Int32) : Prop := RN f j = 0 ∨ (RI f [j] ∧ RN f j ≤ m) ∨ (RI f [] ∧ ∃ o a, m_X5_oldest_r f j = nI o ∧ o < cn u ∧ u 3 o = nI a ∧ a ≤ t ∧ RN f j + (a + 99 - t) + 1 ≤ m)
theorem RI_T {g : Nat → Int32} {row : List Nat} {x : Int32} (h : RI g row) : RI (upd g 4 x) row := by
  have hl := h.le
  refine ⟨(pk_un (by decide)).trans h.1, fun i y hy => ?_, h.2.2⟩
  have := (List.getElem?_eq_some_iff.mp hy).1
  exact (pk_un (by omega)).trans (h.2.1 i y hy)
theorem RN_T {g : Nat → Int32} {j : Nat} {x : Int32} : RN (upd g 4 x) j = RN g j ∧ m_X5_oldest_r (upd g 4 x) j = m_X5_oldest_r g j := by
  have ha : ∀ i w, m_X5_frameAt_r (upd g 4 x) i w = m_X5_frameAt_r g i w := fun i w => a_hd (by decide)
  have h5 : upd g 4 x 5 = g 5 := pk_un (by decide)
  unfold RN
  rw [ring_eq h5 (fun k _ => isin_eq (fun w _ => ha k w)), oldest_eq h5 (fun k _ => isin_eq (fun w _ => ha k w))]
  exact ⟨rfl, rfl⟩
theorem RN_call {g : Nat → Int32} {j : Nat} (hj : j < 3) (hl : tn (g 6) < 3) : RN (m_X5_doCall_f g j) j = RN g j := by
  have ha : ∀ i w, m_X5_frameAt_r (m_X5_doCall_f g j) i w = m_X5_frameAt_r g i w := fun i w => by
    rw [m_X5_doCall_f, a_lays hj (by decide), a_more hj (by decide), a_hd (by decide), a_hd (by omega)]
  have h5 : m_X5_doCall_f g j 5 = g 5 := AS_call (AS.rf g) 5 (Or.inr rfl)
  unfold RN
  rw [ring_eq h5 (fun k _ => isin_eq (fun w _ => ha k w))]
/-- what a tick of a test does to the row of queues, and to the number of ticks it may still take -/
theorem TR_row {u : CS} {f : Nat → Int32} {j t m : Nat} (hj : j < 3) (ht : t < 2 ^ 29) (h : TR j t u f) : (∃ row, RI (m_X5_tick_f f) row ∧ (row = [] ∨ row = [j])) ∧ (MB (m + 1) j t u f → ¬ RN f j = 0 → MB m j (t + 1) (m_X0_tick_u u) (m_X5_tick_f f)) := by
  obtain ⟨r1, r2, r3⟩ := RN_in hj h
  obtain ⟨hS, hs, h4, hF, hT, h0, row, hI, hrow⟩ := h
  have hC := hS.1
  have hw := hS.2.1
  have t6 := hI.tn6
  have hcm := hC.1.2.1
  rw [tick_F]
  rcases hrow with rfl | rfl
  · -- nobody is in the row
    have ep : pollF f = f := by unfold pollF; rw [if_pos (by rw [t6]; simp)]
    have nc : ∀ p, p < 3 → p ≠ j → callF p f = f := fun p hp hn => no_call (nofr hC hF hj hp hn).1
    have hpl : m_X5_placeInRow_r f j = (-6) := place_out hI hj (by simp)
    have hg := SIM_cg hj hS
    have hF2 : FLj (callG j u) j := by
      intro i hi
      have e : cn (callG j u) = cn u := by show tn (callG j u 0 3) = _; rw [callG_k (by decide)]
      rw [e] at hi
      rw [callG_k (by decide)]
      exact hF i hi
    have nc2 : ∀ p, p < 3 → p ≠ j → callF p (callF j f) = callF j f := fun p hp hn => no_call (nofr hg.1 hF2 hj hp hn).1
    have eall : callF 2 (callF 1 (callF 0 (pollF f))) = callF j f := by
      rw [ep]
      rcases (by omega : j = 0 ∨ j = 1 ∨ j = 2) with rfl | rfl | rfl
      · rw [nc2 1 (by decide) (by decide), nc2 2 (by decide) (by decide)]
      · rw [nc 0 (by decide) (by decide), nc2 2 (by decide) (by decide)]
      · rw [nc 0 (by decide) (by decide), nc 1 (by decide) (by decide)]
    rw [eall]
    by_cases cr : m_X5_reason_r f j = 0
    · have e : callF j f = m_X5_doCall_f f j := by unfold callF; rw [if_pos cr]
      have hI2 : RI (m_X5_doCall_f f j) [j] := RI_call hI hj (by simp)
      rw [e]
      refine ⟨⟨[j], RI_T hI2, Or.inr rfl⟩, fun hm hR => Or.inr (Or.inl ⟨RI_T hI2, ?_⟩)⟩
      rw [RN_T.1, RN_call hj (by rw [t6]; simp)]
      rcases hm with hm | ⟨hm, -⟩ | ⟨-, o, a, -, -, -, -, hm⟩
      · exact absurd hm hR
      · have := hm.tn6; rw [t6] at this; simp at this
      · omega
    · have e : callF j f = f := by unfold callF; rw [if_neg cr]
      rw [e]
      refine ⟨⟨[], RI_T hI, Or.inl rfl⟩, fun hm hR => ?_⟩
      rcases hm with hm | ⟨hm, -⟩ | ⟨-, o, a, m1, m2, m3, m4, m5⟩
      · exact absurd hm hR
      · have := hm.tn6; rw [t6] at this; simp at this
      · have hcn : cn (m_X0_tick_u u) = cn u := tick_cn hS
        refine Or.inr (Or.inr ⟨RI_T hI, o, a, by rw [RN_T.2]; exact m1, by rw [hcn]; exact m2, by rw [(tick_k u).2.1]; exact m3, by omega, ?_⟩)
        rw [RN_T.1]
        have hlt : t < a + 99 := by
          obtain ⟨-, w, hw1, -, hw9⟩ := hs.2.2 j hj
          have e3 : m_X5_get_r f j 3 = nI 0 := ((hC.2.2.2.2.2 j hj).1 3 (by decide)).symm.trans h0
          have ea : m_X5_frameAt_r f o 1 = nI a := ((hC.2.2.2.2.1 o m2).2.1).symm.trans m3
          unfold m_X5_reason_r at cr
          rw [if_pos hpl, e3, if_neg (show ¬ nI 0 = nI 1 by decide +kernel), m1, if_neg (k_neg (by omega) (by decide)), tn_of rfl (by omega), ea, h4, pk_sub m4, hw1] at cr
          by_cases c1 : m_X5_get_r f j 2 ≤ m_X5_ring_r f j
          · rw [if_pos c1] at cr; exact absurd rfl cr
          · rw [if_neg c1] at cr
            by_cases c2 : nI w ≤ nI (t - a)
            · rw [if_pos c2] at cr; exact absurd rfl cr
            · rw [nI_leI (by omega) (by omega)] at c2
              omega
        omega
  · -- the queue is in the row, and is polled
    have hn6 : ¬ tn (f 6) ≤ 0 := by rw [t6]; simp
    have ep : pollF f = m_X5_polls_f f := by unfold pollF; rw [if_neg hn6]
    obtain ⟨hP, -⟩ := SIM_poll hS hn6
    obtain ⟨k2, k0, -⟩ := poll_k2 u
    have hcn : cn (m_X0_poll_u u) = cn u := by show tn (m_X0_poll_u u 0 3) = _; rw [k0]
    have hF2 : FLj (m_X0_poll_u u) j := by
      intro i hi
      rw [hcn] at hi
      rw [k2]
      exact hF i hi
    have hpr := polls_row hI
    obtain ⟨c1, c2⟩ := polls_cnt hj (tn (f 1)) u f hC hw
    obtain ⟨c3, c4⟩ := polls_fr hI
    obtain ⟨n, hn⟩ : ∃ n, lp_pollsN j (tn (f 1)) f = n := ⟨_, rfl⟩
    rw [hn] at hpr c1 c2
    rw [← c3] at c1
    rw [← c4] at c2
    have hb := hs.2.1
    have hb1 := hw.2.2.1
    have nc : ∀ p, p < 3 → p ≠ j → callF p (m_X5_polls_f f) = m_X5_polls_f f := fun p hp hn => no_call (nofr hP.1 hF2 hj hp hn).1
    have key : (∃ row, RI (m_X5_polls_f f) row ∧ (row = [] ∨ row = [j])) ∧ callF j (m_X5_polls_f f) = m_X5_polls_f f ∧ (RN f j ≤ m + 1 → ¬ RN f j = 0 → RN (m_X5_polls_f f) j = 0 ∨ (RI (m_X5_polls_f f) [j] ∧ RN (m_X5_polls_f f) j ≤ m)) := by
      by_cases c : f 1 ≤ nI (0 + n)
      · rw [if_pos c] at hpr
        have hpr2 : RI (m_X5_polls_f f) [j] := hpr
        have hnn : tn (f 1) ≤ n := by
          rw [hb1.1, Nat.zero_add, nI_leI (by omega) (by have := RN_in hj ⟨hS, hs, h4, hF, hT, h0, [j], hI, Or.inr rfl⟩; omega)] at c
          exact c
        refine ⟨⟨[j], hpr2, Or.inr rfl⟩, ?_, fun h1 h2 => Or.inr ⟨hpr2, by omega⟩⟩
        unfold callF
        rw [if_neg]
        intro e
        have e2 := reason_pl e
        obtain ⟨i, hi, e3⟩ := place_in hpr2 (q := j) (by simp)
        have := (List.getElem?_eq_some_iff.mp hi).1
        simp at this
        rw [e3] at e2
        exact k_neg (by omega) (by decide) e2
      · rw [if_neg c] at hpr
        have hnn : ¬ n = tn (f 1) := by
          intro e
          rw [Nat.zero_add, e] at c
          exact c (by rw [← hb1.1]; exact Int32.le_refl _)
        have ho : m_X5_oldest_r (m_X5_polls_f f) j = (-6) := by
          rcases c2 with c2 | c2
          · exact absurd c2 hnn
          · exact c2
        have hr0 : RN (m_X5_polls_f f) j = 0 := by
          have := (oldest_ring hP.2.1).mp ho
          unfold RN
          rw [this]
          exact tn_of rfl (by decide)
        exact ⟨⟨[], hpr, Or.inl rfl⟩, no_call ho, fun _ _ => Or.inl hr0⟩
    obtain ⟨⟨row, k1, k2⟩, k3, k4⟩ := key
    have eall : callF 2 (callF 1 (callF 0 (pollF f))) = m_X5_polls_f f := by
      rw [ep]
      rcases (by omega : j = 0 ∨ j = 1 ∨ j = 2) with rfl | rfl | rfl
      · rw [k3, nc 1 (by decide) (by decide), nc 2 (by decide) (by decide)]
      · rw [nc 0 (by decide) (by decide), k3, nc 2 (by decide) (by decide)]
      · rw [nc 0 (by decide) (by decide), nc 1 (by decide) (by decide), k3]
    rw [eall]
    refine ⟨⟨row, RI_T k1, k2⟩, fun hm hR => ?_⟩
    have hm2 : RN f j ≤ m + 1 := by
      rcases hm with hm | ⟨-, hm⟩ | ⟨hm, -⟩
      · omega
      · exact hm
      · have := hm.tn6; rw [t6] at this; simp at this
    rcases k4 hm2 hR with k | ⟨k, k'⟩
    · exact Or.inl (by rw [RN_T.1]; exact k)
    · exact Or.inr (Or.inl ⟨RI_T k, by rw [RN_T.1]; exact k'⟩)
theorem TR_tick {u : CS} {f : Nat → Int32} {j t : Nat} (hj : j < 3) (ht : t < 2 ^ 29) (h : TR j t u f) : TR j (t + 1) (m_X0_tick_u u) (m_X5_tick_f f) := by
  have hr := (TR_row (m := 0) hj ht h).1
  obtain ⟨hS, hs, h4, hF, hT, h0, -⟩ := h
  have h' := (SIM_tick hS).1
  have hcn := tick_cn hS
  obtain ⟨k2, k3, -⟩ := tick_k u
  obtain ⟨k0, k4⟩ := tick_k2 u
  refine ⟨h', (ST_tick hS hs).1, ?_, fun i hi => ?_, fun i hi => ?_, by rw [k4 j hj]; exact h0, hr⟩
  · rw [← h'.1.2.1, k0, hS.1.2.1, h4, nI_add]
  · rw [hcn] at hi
    rw [k2]
    exact hF i hi
  · rw [hcn] at hi
    rw [k3]
    obtain ⟨a, ha, e⟩ := hT i hi
    exact ⟨a, by omega, e⟩
theorem dr_end {j : Nat} (hj : j < 3) : ∀ (m t : Nat) (u : CS) (f : Nat → Int32), t + m < 2 ^ 29 → TR j t u f → MB m j t u f → m_X5_inRings_r (lp_dr m f) ≤ 0 := by
  intro m
  induction m with
  | zero =>
    intro t u f _ h hm
    have hr := (RN_in hj h).1
    have z : RN f j = 0 := by
      rcases hm with hm | ⟨-, hm⟩ | ⟨-, o, a, -, -, -, -, hm⟩
      · exact hm
      · omega
      · omega
    rw [lp_dr, hr, z]
    decide
  | succ m ih =>
    intro t u f ht h hm
    rw [lp_dr]
    by_cases c : m_X5_inRings_r f ≤ 0
    · rw [if_pos c]; exact c
    · rw [if_neg c]
      have hR : ¬ RN f j = 0 := by
        intro e
        rw [(RN_in hj h).1, e] at c
        exact c (by decide)
      exact ih (t + 1) _ _ (by omega) (TR_tick hj (by omega) h) ((TR_row hj (by omega) h).2 hm hR)
theorem MB_all {u : CS} {f : Nat → Int32} {j t : Nat} (hj : j < 3) (h : TR j t u f) : MB 1000 j t u f := by
  obtain ⟨-, -, r3⟩ := RN_in hj h
  obtain ⟨hS, hs, h4, hF, hT, h0, row, hI, hrow⟩ := h
  by_cases c : RN f j = 0
  · exact Or.inl c
  · rcases hrow with rfl | rfl
    · refine Or.inr (Or.inr ⟨hI, ?_⟩)
      have ho : ¬ m_X5_oldest_r f j = (-6) := by
        intro e
        have := (oldest_ring hS.2.1).mp e
        apply c
        unfold RN
        rw [this]
        exact tn_of rfl (by decide)
      obtain ⟨o1, o2⟩ := oldest_n hS.2.1 ho
      rw [hS.1.cn5] at o2
      obtain ⟨a, ha, e⟩ := hT _ o2
      exact ⟨_, a, o1, o2, e, ha, by omega⟩
    · exact Or.inr (Or.inl ⟨hI, by omega⟩)
theorem TR_run {j : Nat} (hj : j < 3) : ∀ (n t : Nat) (u : CS) (f : Nat → Int32), t + n < 2 ^ 29 → TR j t u f → TR j (t + n) (lp_run n u) (lp_ticks n f) := by
  intro n
  induction n with
  | zero => intro t u f _ h; exact h
  | succ n ih =>
    intro t u f ht h
    have := ih (t + 1) _ _ (by omega) (TR_tick hj (by omega) h)
    rw [lp_run, lp_ticks]
    have e : t + 1 + n = t + (n + 1) := by omega
    rw [e] at this
    exact this
theorem te_dr {j : Nat} (hj : j < 3) : ∀ (m t : Nat) (u : CS) (f : Nat → Int32), t + m < 2 ^ 29 → TR j t u f → SIM (lp_te j m u) (lp_dr m f) := by
  intro m
  induction m with
  | zero => intro t u f _ h; exact h.1
  | succ m ih =>
    intro t u f ht h
    obtain ⟨r1, r2, -⟩ := RN_in hj h
    rw [lp_te, lp_dr, r1, r2]
    by_cases c : nI (RN f j) ≤ 0
    · rw [if_pos c, if_pos c]; exact h.1
    · rw [if_neg c, if_neg c]; exact ih (t + 1) _ _ (by omega) (TR_tick hj (by omega) h)
theorem TR_come {u : CS} {f : Nat → Int32} {j t : Nat} (hj : j < 3) (hc : cn u < 400) (h : TR j t u f) : TR j t (m_X0_receive_u u (nI j)) (m_X5_doCome_f f j) ∧ cn (m_X0_receive_u u (nI j)) = cn u + 1 := by
  obtain ⟨hS, hs, h4, hF, hT, h0, row, hI, hrow⟩ := h
  obtain ⟨-, hS2⟩ := SIM_come hS (fl := j) (by omega) hc
  have hcn : cn (m_X0_receive_u u (nI j)) = cn u + 1 := by
    rw [← hS2.1.cn5, doCome_5, tn_of rfl (by have := hS.1.cn5; omega), hS.1.cn5]
  have ej : j % 3 = j := Nat.mod_eq_of_lt hj
  obtain ⟨-, r2⟩ := receive_eq (u := u) (x := nI j) (j := j) hj (nI_pos (by omega)) ((nI_leI (by omega) (by decide)).mpr (by omega)) hc ((pk_rem (by omega) (by decide) (by decide)).trans (by rw [ej]))
  have e : ∀ s Q, recvG j u (nI j) s Q 2 = upd (u 2) (cn u) (nI j) ∧ recvG j u (nI j) s Q 3 = upd (u 3) (cn u) (u 0 2) ∧ (Q 4 = u (6 + j) 4 → recvG j u (nI j) s Q (6 + j) 4 = nI 0) := by
    intro s Q
    unfold recvG
    rw [st2_n (by omega), st2_n (by decide), st2_n (by decide), st2_s, st2_n (by omega), st2_n (by decide), st2_s, st2_s]
    exact ⟨rfl, rfl, fun e => e.trans h0⟩
  have key : m_X0_receive_u u (nI j) 2 = upd (u 2) (cn u) (nI j) ∧ m_X0_receive_u u (nI j) 3 = upd (u 3) (cn u) (u 0 2) ∧ m_X0_receive_u u (nI j) (6 + j) 4 = nI 0 := by
    rw [r2]
    split
    · split
      · exact ⟨(e _ _).1, (e _ _).2.1, (e _ _).2.2 rfl⟩
      · exact ⟨(e _ _).1, (e _ _).2.1, (e _ _).2.2 rfl⟩
    · exact ⟨(e _ _).1, (e _ _).2.1, (e _ _).2.2 rfl⟩
  have hl := hI.le
  refine ⟨⟨hS2, ST_come hs, (dC_hd (by decide) (by decide)).trans h4, fun i hi => ?_, fun i hi => ?_, key.2.2, row, ?_, hrow⟩, hcn⟩
  · rw [key.1]
    by_cases e : i = cn u
    · subst e; exact pk_us
    · rw [pk_un e]; exact hF i (by omega)
  · rw [key.2.1]
    by_cases e : i = cn u
    · subst e; rw [pk_us]; exact ⟨t, Nat.le_refl t, hS.1.2.1.trans h4⟩
    · rw [pk_un e]; exact hT i (by omega)
  · refine ⟨(dC_hd (by decide) (by decide)).trans hI.1, fun i y hy => ?_, hI.2.2⟩
    have := (List.getElem?_eq_some_iff.mp hy).1
    exact (dC_hd (by omega) (by omega)).trans (hI.2.1 i y hy)
theorem run_cn : ∀ (n : Nat) {u : CS} {f : Nat → Int32}, SIM u f → cn (lp_run n u) = cn u := by
  intro n
  induction n with
  | zero => intro u f _; rfl
  | succ n ih => intro u f h; rw [lp_run, ih (SIM_tick h).1, tick_cn h]
theorem TR_co {j gp : Nat} (hj : j < 3) (hg : gp ≤ 20) : ∀ (r t : Nat) (u : CS) (f : Nat → Int32), t + 20 * r ≤ 1000 → cn u + r ≤ 400 → TR j t u f → ∃ t', t' ≤ t + 20 * r ∧ TR j t' (lp_tr j gp r u) (lp_co j gp r f) := by
  intro r
  induction r with
  | zero => intro t u f _ _ h; exact ⟨t, by omega, h⟩
  | succ r ih =>
    intro t u f ht hc h
    obtain ⟨h1, h2⟩ := TR_come hj (by omega) h
    have h3 := TR_run hj gp t _ _ (by omega) h1
    obtain ⟨t', g1, g2⟩ := ih (t + gp) _ _ (by omega) (by rw [run_cn gp h1.1, h2]; omega) h3
    exact ⟨t', by omega, g2⟩
/-- the start of a test -/
theorem TR_s {u p : CS} {f : Nat → Int32} {j c : Nat} (h : SIM u f) (hs : ST f) (hj : j < 3) (h1 : 1 ≤ c) (h32 : c ≤ 32) : TR j 0 (tc_s u p j (nI c)) (m_X5_doBounds_f (m_X5_empties_f f) j (nI c) (m_X5_get_r (m_X5_empties_f f) j 1)) ∧ cn (tc_s u p j (nI c)) = 0 := by
  have hE := SIM_empty (p := p) h
  have hEs := ST_empty hs
  obtain ⟨-, w, hw1, hw2, hw3⟩ := hs.2.2 j hj
  have eg : m_X5_get_r (m_X5_empties_f f) j 1 = m_X5_get_r f j 1 := emp_g hj 1 (by decide)
  have eu : u (6 + j) 1 = m_X5_get_r f j 1 := (h.1.2.2.2.2.2 j hj).1 1 (by decide)
  have hb : ¬ m_X5_areBounds_r (nI c) (nI w) = 0 := by
    rw [areb_eq, nI_ltI (by omega) (by decide), nI_ltI (by decide) (by omega), nI_ltI (by omega) (by decide), nI_leI (by omega) (by decide)]
    omega
  have e1 : tc_s u p j (nI c) = st2 (m_X0_emptyLike_u p u) (6 + j) (upd (upd (upd (m_X0_emptyLike_u p u (6 + j)) 0 (nI c)) 1 (nI w)) 2 (nI c)) := by
    rw [tc_s, eu, hw1]
    exact ((cb_eq hj).1 hb).2
  rw [e1, eg, hw1]
  have hS := SIM_bounds (c := nI c) (w := nI w) hE hj
  have hcn : cn (st2 (m_X0_emptyLike_u p u) (6 + j) (upd (upd (upd (m_X0_emptyLike_u p u (6 + j)) 0 (nI c)) 1 (nI w)) 2 (nI c))) = 0 := by
    show tn (st2 (m_X0_emptyLike_u p u) (6 + j) (upd (upd (upd (m_X0_emptyLike_u p u (6 + j)) 0 (nI c)) 1 (nI w)) 2 (nI c)) 0 3) = 0
    rw [st2_n (by omega)]
    exact tn_of (show m_X0_emptyLike_u p u 0 3 = nI 0 from rfl) (by decide)
  refine ⟨⟨hS, ST_bounds hEs hj (nI_pos (by omega)) hw2 hw3, (AG_doBounds 4 (by decide)).trans emp_z.1, fun i hi => ?_, fun i hi => ?_, ?_, [], RI_ag ⟨emp_z.2.2, fun i x hx => by simp at hx, List.nodup_nil, fun x hx => by simp at hx⟩ AG_doBounds, Or.inl rfl⟩, hcn⟩
  · rw [hcn] at hi; exact absurd hi (Nat.not_lt_zero i)
  · rw [hcn] at hi; exact absurd hi (Nat.not_lt_zero i)
  · rw [st2_s, pk_un (by decide), pk_un (by decide), pk_un (by decide)]
    rcases (by omega : j = 0 ∨ j = 1 ∨ j = 2) with rfl | rfl | rfl <;> rfl
theorem trial_eq {u p : CS} {f : Nat → Int32} {j c gp : Nat} (h : SIM u f) (hs : ST f) (hj : j < 3) (h1 : 1 ≤ c) (h32 : c ≤ 32) (hg : gp ≤ 20) : m_X4_trialCost_r u p j (nI c) gp = m_X5_costs_r f j (nI c) gp ∧ m_X5_inRings_r (lp_dr 1000 (cs_f f j (nI c) gp)) ≤ 0 := by
  obtain ⟨hT, hcn⟩ := TR_s (p := p) h hs hj h1 h32
  obtain ⟨t', ht', hT2⟩ := TR_co hj hg 16 0 _ _ (by omega) (by rw [hcn]; decide) hT
  have hS := te_dr hj 1000 t' _ _ (by omega) hT2
  have hD := dr_end hj 1000 t' _ _ (by omega) hT2 (MB_all hj hT2)
  refine ⟨?_, hD⟩
  rw [m_X4_trialCost_r, m_X4_trialCost_u, tc_r, total_9 hS.1, total_6 hS.1, hS.1.2.2.2.1 3 (by decide)]
  rfl
theorem BD_of {u : CS} {f : Nat → Int32} (h : SIM u f) (hs : ST f) : BD f := fun q gp c hq h1 h2 h3 h4 => (trial_eq (p := u) h hs hq h3 h4 h2).2
theorem bcB_eq {u : CS} {f : Nat → Int32} {j gp : Nat} (h : SIM u f) (hs : ST f) (hj : j < 3) (hg : gp ≤ 20) : ∀ (r i : Nat) (p : CS) (b v : Int32), 1 ≤ i → i + r ≤ 33 → bc_B u j gp r i p b v = lp_bcB f j gp r i b v ∧ bc_L u j gp r i p v = lp_bcL f j gp r i v := by
  intro r
  induction r with
  | zero => intro i p b v _ _; exact ⟨rfl, rfl⟩
  | succ r ih =>
    intro i p b v h1 hi
    have e := (trial_eq (p := p) (c := i) h hs hj h1 (by omega) hg).1
    rw [bc_B, bc_L, lp_bcB, lp_bcL, e]
    by_cases c : v ≤ m_X5_costs_r f j (nI i) gp
    · rw [if_pos c, if_pos c, if_pos c, if_pos c]; exact ih (i + 1) _ b v (by omega) (by omega)
    · rw [if_neg c, if_neg c, if_neg c, if_neg c]
      exact ⟨(ih (i + 1) _ (nI i) _ (by omega) (by omega)).1, (ih (i + 1) _ (nI i) _ (by omega) (by omega)).2⟩
theorem S_best {u p : CS} {f : Nat → Int32} {x gp w : Int32} (h : SIM u f) (hs : ST f) : m_X4_bestCount_r u p x gp w = m_X5_bestCount_r f x gp w := by
  have hg : m_X5_in_r gp.toInt64 1 20 = 0 ↔ (gp < nI 1 ∨ nI 20 < gp) := in0 (lo := nI 1) (up := nI 20) (by decide) (by decide)
  have hw : m_X5_in_r w.toInt64 0 1 = 0 ↔ (w < 0 ∨ nI 1 < w) := in0 (lo := 0) (up := nI 1) rfl (by decide)
  rw [m_X4_bestCount_r, m_X5_bestCount_r]
  by_cases cq : m_X5_isQueue_r x = 0
  · rw [if_pos ((isq_eq x).mpr cq), if_pos cq]
  · obtain ⟨j, hj, rfl⟩ := isqj5 cq
    rw [if_neg (fun e => cq ((isq_eq _).mp e)), if_neg cq, tn_of rfl (by omega)]
    by_cases c1 : m_X5_in_r gp.toInt64 1 20 = 0
    · rw [if_pos c1]
      by_cases e1 : gp < nI 1
      · rw [if_pos e1]
      · rw [if_neg e1]
        rcases hg.mp c1 with z | z
        · exact absurd z e1
        · rw [if_pos z]
    · rw [if_neg c1, if_neg (fun e => c1 (hg.mpr (Or.inl e))), if_neg (fun e => c1 (hg.mpr (Or.inr e)))]
      by_cases c2 : m_X5_in_r w.toInt64 0 1 = 0
      · rw [if_pos c2]
        by_cases e1 : w < 0
        · rw [if_pos e1]
        · rw [if_neg e1]
          rcases hw.mp c2 with z | z
          · exact absurd z e1
          · rw [if_neg (Int32.not_le.mpr z)]
      · obtain ⟨-, g1, g2⟩ := in_n (a := 1) (b := 20) (by decide) (by decide) (by decide) c1
        have e1 := (trial_eq (p := p) (c := 1) h hs hj (by decide) (by decide) g2).1
        obtain ⟨b1, b2⟩ := bcB_eq h hs hj g2 31 2 (m_X4_trialCost_u u p j (nI 1) (tn gp)) (nI 1) (m_X5_costs_r f j (nI 1) (tn gp)) (by decide) (by decide)
        rw [if_neg c2, if_neg (fun e => c2 (hw.mpr (Or.inl e))), if_pos (Int32.not_lt.mp (fun e => c2 (hw.mpr (Or.inr e)))), bc_r, e1, b1, b2]
