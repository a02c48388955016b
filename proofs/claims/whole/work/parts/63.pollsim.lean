/-! A poll, side by side -/
theorem hasf_old {u : CS} {f : Nat → Int32} {q : Nat} (hq : q < 3) (h : CORE u f) (hw : WF f) : m_X0_hasFrame_r u (u (6 + q) 6) = 0 ↔ m_X5_oldest_r f q = (-6) := by
  have e := (h.2.2.2.2.2 q hq).2.2.1
  have h5 := h.cn5
  have hc := h.1.2.1
  rw [e]
  unfold m_X0_hasFrame_r
  by_cases ho : m_X5_oldest_r f q = (-6)
  · rw [ho, if_pos (by decide)]
    exact ⟨fun _ => rfl, fun _ => rfl⟩
  · obtain ⟨h1, h2⟩ := oldest_n hw ho
    obtain ⟨o, eo⟩ : ∃ o, tn (m_X5_oldest_r f q) = o := ⟨_, rfl⟩
    rw [eo] at h1 h2
    rw [h1, if_neg (nI_pos (by omega)), h.1.1, if_neg (by rw [nI_leI (by omega) (by omega)]; omega)]
    exact ⟨fun z => absurd z (by decide), fun z => absurd z (k_neg (by omega) (by decide))⟩
def lp_pollG (q : Nat) : Nat → CS → CS
  | 0, u => u
  | r + 1, u => if m_X0_hasFrame_r u (u (6 + q) 6) = 0 then u else lp_pollG q r (takeG q u)
def lp_pollNG (q : Nat) : Nat → CS → Nat
  | 0, _ => 0
  | r + 1, u => if m_X0_hasFrame_r u (u (6 + q) 6) = 0 then 0 else 1 + lp_pollNG q r (takeG q u)
theorem poll_G0 : ∀ (r : Nat) (u : CS), lp_poll_0 r u = lp_pollG 0 r u ∧ lp_pollN_0 r u = lp_pollNG 0 r u := by
  intro r
  induction r with
  | zero => intro u; exact ⟨rfl, rfl⟩
  | succ r ih =>
    intro u
    obtain ⟨h1, h2⟩ := ih (takeG 0 u)
    show (if m_X0_hasFrame_r u (u 6 6) = 0 then u else lp_poll_0 r (takeG 0 u)) = (if m_X0_hasFrame_r u (u 6 6) = 0 then u else lp_pollG 0 r (takeG 0 u)) ∧ (if m_X0_hasFrame_r u (u 6 6) = 0 then 0 else 1 + lp_pollN_0 r (takeG 0 u)) = (if m_X0_hasFrame_r u (u 6 6) = 0 then 0 else 1 + lp_pollNG 0 r (takeG 0 u))
    rw [h1, h2]
    exact ⟨rfl, rfl⟩
theorem poll_G1 : ∀ (r : Nat) (u : CS), lp_poll_1 r u = lp_pollG 1 r u ∧ lp_pollN_1 r u = lp_pollNG 1 r u := by
  intro r
  induction r with
  | zero => intro u; exact ⟨rfl, rfl⟩
  | succ r ih =>
    intro u
    obtain ⟨h1, h2⟩ := ih (takeG 1 u)
    show (if m_X0_hasFrame_r u (u 7 6) = 0 then u else lp_poll_1 r (takeG 1 u)) = (if m_X0_hasFrame_r u (u 7 6) = 0 then u else lp_pollG 1 r (takeG 1 u)) ∧ (if m_X0_hasFrame_r u (u 7 6) = 0 then 0 else 1 + lp_pollN_1 r (takeG 1 u)) = (if m_X0_hasFrame_r u (u 7 6) = 0 then 0 else 1 + lp_pollNG 1 r (takeG 1 u))
    rw [h1, h2]
    exact ⟨rfl, rfl⟩
theorem poll_G2 : ∀ (r : Nat) (u : CS), lp_poll_2 r u = lp_pollG 2 r u ∧ lp_pollN_2 r u = lp_pollNG 2 r u := by
  intro r
  induction r with
  | zero => intro u; exact ⟨rfl, rfl⟩
  | succ r ih =>
    intro u
    obtain ⟨h1, h2⟩ := ih (takeG 2 u)
    show (if m_X0_hasFrame_r u (u 8 6) = 0 then u else lp_poll_2 r (takeG 2 u)) = (if m_X0_hasFrame_r u (u 8 6) = 0 then u else lp_pollG 2 r (takeG 2 u)) ∧ (if m_X0_hasFrame_r u (u 8 6) = 0 then 0 else 1 + lp_pollN_2 r (takeG 2 u)) = (if m_X0_hasFrame_r u (u 8 6) = 0 then 0 else 1 + lp_pollNG 2 r (takeG 2 u))
    rw [h1, h2]
    exact ⟨rfl, rfl⟩
def PRG (q : Nat) (u1 : CS) (t : Nat) : CS := if leaveG q u1 1 1 ≤ nI t then st2 (leaveG q u1) (6 + q) (upd (leaveG q u1 (6 + q)) 3 (m_X0_rowLength_r (leaveG q u1))) else st2 (leaveG q u1) (6 + q) (m_X3_becomeIdle_q (leaveG q u1 (6 + q)) (if leaveG q u1 1 2 = nI 1 then nI 1 else nI 0))
theorem pr_0 (u1 : CS) (t : Nat) : m_pollrest_0_u1 u1 t = PRG 0 u1 t ∧ m_pollrest_0_r u1 t = nI t := by
  constructor
  · rw [m_pollrest_0_u1, leave_0, PRG]
    by_cases c : leaveG 0 u1 1 1 ≤ nI t
    · rw [if_pos c, if_pos c]
    · rw [if_neg c, if_neg c]
      by_cases d : leaveG 0 u1 1 2 = nI 1
      · rw [if_pos d, if_pos d]
      · rw [if_neg d, if_neg d]
  · rw [m_pollrest_0_r]
    split
    · rfl
    · split <;> rfl
theorem pr_1 (u1 : CS) (t : Nat) : m_pollrest_1_u1 u1 t = PRG 1 u1 t ∧ m_pollrest_1_r u1 t = nI t := by
  constructor
  · rw [m_pollrest_1_u1, leave_1, PRG]
    by_cases c : leaveG 1 u1 1 1 ≤ nI t
    · rw [if_pos c, if_pos c]
    · rw [if_neg c, if_neg c]
      by_cases d : leaveG 1 u1 1 2 = nI 1
      · rw [if_pos d, if_pos d]
      · rw [if_neg d, if_neg d]
  · rw [m_pollrest_1_r]
    split
    · rfl
    · split <;> rfl
theorem pr_2 (u1 : CS) (t : Nat) : m_pollrest_2_u1 u1 t = PRG 2 u1 t ∧ m_pollrest_2_r u1 t = nI t := by
  constructor
  · rw [m_pollrest_2_u1, leave_2, PRG]
    by_cases c : leaveG 2 u1 1 1 ≤ nI t
    · rw [if_pos c, if_pos c]
    · rw [if_neg c, if_neg c]
      by_cases d : leaveG 2 u1 1 2 = nI 1
      · rw [if_pos d, if_pos d]
      · rw [if_neg d, if_neg d]
  · rw [m_pollrest_2_r]
    split
    · rfl
    · split <;> rfl
theorem isq_t {q : Nat} (hq : q < 3) : ¬ m_X4_isQueue_r (nI q) = 0 := by
  rcases (by omega : q = 0 ∨ q = 1 ∨ q = 2) with rfl | rfl | rfl <;> decide +kernel
theorem poll_eq {u : CS} {q : Nat} (hq : q < 3) (h : m_X0_queueAt_r u (nI 0) = nI q) : m_X0_poll_u u = PRG q (lp_pollG q (tn (u 1 1)) u) (0 + lp_pollNG q (tn (u 1 1)) u) ∧ m_X0_poll_r u = nI (0 + lp_pollNG q (tn (u 1 1)) u) := by
  rw [m_X0_poll_u, m_X0_poll_r, h, if_neg (isq_t hq), if_neg (isq_t hq)]
  rcases (by omega : q = 0 ∨ q = 1 ∨ q = 2) with rfl | rfl | rfl
  · rw [if_pos rfl, if_pos rfl, (poll_G0 _ _).1, (poll_G0 _ _).2]
    exact pr_0 _ _
  · rw [if_neg (by decide +kernel), if_pos rfl, if_neg (by decide +kernel), if_pos rfl, (poll_G1 _ _).1, (poll_G1 _ _).2]
    exact pr_1 _ _
  · rw [if_neg (by decide +kernel), if_neg (by decide +kernel), if_neg (by decide +kernel), if_neg (by decide +kernel), (poll_G2 _ _).1, (poll_G2 _ _).2]
    exact pr_2 _ _
theorem take_pl {q : Nat} {u : CS} : ∀ p, p < 3 → takeG q u (6 + p) 3 = u (6 + p) 3 := by
  intro p hp
  unfold takeG
  by_cases e : p = q
  · subst e
    rw [st2_s, m_X0_takeOldest_q, note_eq]
    rfl
  · rw [st2_n (by omega), st2_n (by omega), st2_n (by omega)]
/-- the frames that a poll takes -/
theorem poll_loop {q : Nat} (hq : q < 3) : ∀ (r : Nat) (u : CS) (f : Nat → Int32), CORE u f → WF f → CORE (lp_pollG q r u) (lp_polls q r f) ∧ lp_pollNG q r u = lp_pollsN q r f ∧ (∀ p, p < 3 → lp_pollG q r u (6 + p) 3 = u (6 + p) 3) ∧ (∀ p, p < 3 → m_X5_get_r (lp_polls q r f) p 5 = if p = q then m_X5_get_r f p 5 + nI (lp_pollsN q r f) else m_X5_get_r f p 5) := by
  intro r
  induction r with
  | zero =>
    intro u f h _
    refine ⟨h, rfl, fun _ _ => rfl, fun p hp => ?_⟩
    rw [lp_polls, lp_pollsN]
    split
    · exact (Int32.add_zero _).symm
    · rfl
  | succ r ih =>
    intro u f h hw
    have ho := hasf_old hq h hw
    rw [lp_pollG, lp_pollNG, lp_polls, lp_pollsN]
    by_cases c : m_X5_oldest_r f q = (-6)
    · rw [if_pos (ho.mpr c), if_pos (ho.mpr c), if_pos c, if_pos c]
      refine ⟨h, rfl, fun _ _ => rfl, fun p hp => ?_⟩
      split
      · exact (Int32.add_zero _).symm
      · rfl
    · rw [if_neg (fun z => c (ho.mp z)), if_neg (fun z => c (ho.mp z)), if_neg c, if_neg c]
      obtain ⟨h1, h2⟩ := oldest_n hw c
      rw [h.cn5] at h2
      obtain ⟨o, eo⟩ : ∃ o, tn (m_X5_oldest_r f q) = o := ⟨_, rfl⟩
      rw [eo] at h1 h2 ⊢
      obtain ⟨g1, g2, g3, g4⟩ := ih (takeG q u) (m_X5_takes_f f o q) (CORE_take hq h h1 h2) (WF_ag hw AG_takes)
      refine ⟨g1, by rw [g2], fun p hp => (g3 p hp).trans (take_pl p hp), fun p hp => ?_⟩
      rw [g4 p hp]
      by_cases e : p = q
      · subst e
        rw [if_pos rfl, if_pos rfl, takes_g hq 5 (by decide), if_pos rfl, Int32.add_assoc, nI_add]
      · rw [if_neg e, if_neg e, takes_o hq hp e (by decide)]
/-! the count in use, behind a queue's time in the row -/
def nu (fo use s : Int32) : Int32 := if fo = nI 1 then (if s ≤ nI 2 * use then (if use ≤ nI 2 * s then use else if nI 1 ≤ use / nI 2 then use / nI 2 else nI 1) else if nI 2 * use ≤ nI 32 then nI 2 * use else nI 32) else use
theorem upd_id {f : Nat → Int32} {i : Nat} {x : Int32} (h : f i = x) : upd f i x = f := by
  funext j
  by_cases e : j = i
  · subst e; rw [pk_us, h]
  · rw [pk_un e]
theorem leaves_eq (f : Nat → Int32) (q : Nat) : m_X5_leaves_f f q = m_X5_lays_f (m_X5_lays_f f q 2 (nu (f 2) (m_X5_get_r f q 2) (m_X5_get_r f q 9))) q 9 (nI 0) := by
  have e : m_X5_lays_f f q 2 (m_X5_get_r f q 2) = f := upd_id rfl
  rw [m_X5_leaves_f, nu]
  by_cases c1 : f 2 = nI 1
  · rw [if_pos c1, if_pos c1]
    by_cases c2 : m_X5_get_r f q 9 ≤ nI 2 * m_X5_get_r f q 2
    · rw [if_pos c2, if_pos c2]
      by_cases c3 : m_X5_get_r f q 2 ≤ nI 2 * m_X5_get_r f q 9
      · rw [if_pos c3, if_pos c3, e]
      · rw [if_neg c3, if_neg c3]
        by_cases c4 : nI 1 ≤ m_X5_get_r f q 2 / nI 2
        · rw [if_pos c4, if_pos c4]
        · rw [if_neg c4, if_neg c4]
    · rw [if_neg c2, if_neg c2]
      by_cases c3 : nI 2 * m_X5_get_r f q 2 ≤ nI 32
      · rw [if_pos c3, if_pos c3]
      · rw [if_neg c3, if_neg c3]
  · rw [if_neg c1, if_neg c1, e]
theorem idle_eq (Q : Nat → Int32) (fo : Int32) : m_X3_becomeIdle_q Q (if fo = nI 1 then nI 1 else nI 0) = upd (upd Q 2 (nu fo (Q 2) (Q 12))) 12 (nI 0) := by
  have e : upd Q 2 (Q 2) = Q := upd_id rfl
  rw [m_X3_becomeIdle_q, nu]
  by_cases c1 : fo = nI 1
  · rw [if_pos c1, if_pos c1, if_neg (show ¬ nI 1 = 0 by decide +kernel)]
    by_cases c2 : Q 12 ≤ nI 2 * Q 2
    · rw [if_pos c2, if_pos c2]
      by_cases c3 : Q 2 ≤ nI 2 * Q 12
      · rw [if_pos c3, if_pos c3, e]
      · rw [if_neg c3, if_neg c3]
        by_cases c4 : Q 2 / nI 2 < nI 1
        · rw [if_pos c4, if_neg (Int32.not_le.mpr c4)]
        · rw [if_neg c4, if_pos (Int32.not_lt.mp c4)]
    · rw [if_neg c2, if_neg c2]
      by_cases c3 : nI 32 < nI 2 * Q 2
      · rw [if_pos c3, if_neg (Int32.not_le.mpr c3)]
      · rw [if_neg c3, if_pos (Int32.not_lt.mp c3)]
  · rw [if_neg c1, if_neg c1, e, if_pos (show nI 0 = 0 from rfl)]
theorem CORE_idle {u : CS} {f : Nat → Int32} {q : Nat} (hq : q < 3) (h : CORE u f) : CORE (st2 u (6 + q) (m_X3_becomeIdle_q (u (6 + q)) (if u 1 2 = nI 1 then nI 1 else nI 0))) (m_X5_leaves_f f q) := by
  obtain ⟨b0, b1, b2, b3⟩ := h.2.2.2.2.2 q hq
  have e2 : u (6 + q) 2 = m_X5_get_r f q 2 := b0 2 (by decide)
  have e9 : u (6 + q) 12 = m_X5_get_r f q 9 := b0 9 (by decide)
  have ef : u 1 2 = f 2 := h.2.2.2.1 2 (by decide)
  rw [idle_eq, leaves_eq, ef, e2, e9]
  obtain ⟨x, hx⟩ : ∃ x, nu (f 2) (m_X5_get_r f q 2) (m_X5_get_r f q 9) = x := ⟨_, rfl⟩
  rw [hx]
  refine CORE_q hq h (fun j hj => AG_lays (AG_lays (AG.rf f)) j (by omega)) (fun i _ w _ => by rw [a_lays hq (by decide), a_lays hq (by decide)]) (fun p hp hn w hw => by rw [g_lays_q hn (by decide) hw, g_lays_q hn (by decide) hw]) ?_ rfl rfl b3
  refine lt10 ?_ ?_ ?_ ?_ ?_ ?_ ?_ ?_ ?_ ?_
  · rw [g_lays_w (by decide), g_lays_w (by decide)]; exact b0 0 (by decide)
  · rw [g_lays_w (by decide), g_lays_w (by decide)]; exact b0 1 (by decide)
  · rw [g_lays_w (by decide), g_lays_s]; rfl
  · rw [g_lays_w (by decide), g_lays_w (by decide)]; exact b0 3 (by decide)
  · rw [g_lays_w (by decide), g_lays_w (by decide)]; exact b0 4 (by decide)
  · rw [g_lays_w (by decide), g_lays_w (by decide)]; exact b0 5 (by decide)
  · rw [g_lays_w (by decide), g_lays_w (by decide)]; exact b0 6 (by decide)
  · rw [g_lays_w (by decide), g_lays_w (by decide)]; exact b0 7 (by decide)
  · rw [g_lays_w (by decide), g_lays_w (by decide)]; exact b0 8 (by decide)
  · rw [g_lays_s]; rfl
theorem SR_cong {u u' : CS} {row : List Nat} (h : SR u row) (hq : ∀ q, q < 3 → u' (6 + q) 3 = u (6 + q) 3) : SR u' row := by
  intro q h3
  rw [hq q h3]
  exact h q h3
theorem SR_app {u : CS} {row : List Nat} {q : Nat} {Q : Nat → Int32} (hq : q < 3) (h : SR u row) (hn : q ∉ row) (hQ : Q 3 = nI row.length) : SR (st2 u (6 + q) Q) (row ++ [q]) := by
  intro p hp
  by_cases e : p = q
  · subst e
    refine Or.inr ⟨row.length, by simp, ?_⟩
    rw [st2_s, hQ]
  · rw [st2_n (by omega)]
    rcases h p hp with ⟨h1, h2⟩ | ⟨i, h1, h2⟩
    · exact Or.inl ⟨by simp [h1, e], h2⟩
    · exact Or.inr ⟨i, by rw [List.getElem?_append_left (List.getElem?_eq_some_iff.mp h1).1]; exact h1, h2⟩
theorem allOf_3 {f g : Nat → Int32} {q w : Nat} {n : Int32} (hq : q < 3) (h : ∀ p, p < 3 → m_X5_get_r g p w = if p = q then m_X5_get_r f p w + n else m_X5_get_r f p w) : m_X5_allOf_r g w = m_X5_allOf_r f w + n := by
  rw [m_X5_allOf_r, m_X5_allOf_r, h 0 (by decide), h 1 (by decide), h 2 (by decide)]
  rcases (by omega : q = 0 ∨ q = 1 ∨ q = 2) with rfl | rfl | rfl
  · rw [if_pos rfl, if_neg (by decide), if_neg (by decide)]; ac_rfl
  · rw [if_neg (by decide), if_pos rfl, if_neg (by decide)]; ac_rfl
  · rw [if_neg (by decide), if_neg (by decide), if_pos rfl]; ac_rfl
theorem poll_nil {u : CS} {f : Nat → Int32} (h : SIM u f) (h6 : tn (f 6) ≤ 0) : m_X0_poll_u u = u ∧ m_X0_poll_r u = nI 0 := by
  obtain ⟨-, -, row, hI, hR⟩ := h
  rw [hI.tn6] at h6
  have e : row = [] := List.length_eq_zero_iff.mp (by omega)
  subst e
  have hq : m_X0_queueAt_r u (nI 0) = (-1) := queueAt_none hR hI.2.2.1 hI.2.2.2 (by simp) (by decide)
  rw [m_X0_poll_u, m_X0_poll_r, hq, if_pos (by decide +kernel), if_pos (by decide +kernel)]
  exact ⟨rfl, rfl⟩
theorem SIM_poll {u : CS} {f : Nat → Int32} (h : SIM u f) (h6 : ¬ tn (f 6) ≤ 0) : SIM (m_X0_poll_u u) (m_X5_polls_f f) ∧ m_X5_allOf_r (m_X5_polls_f f) 5 = m_X5_allOf_r f 5 + m_X0_poll_r u := by
  have hRF := h.rf
  obtain ⟨hC, hw, row, hI, hR⟩ := h
  have t6 := hI.tn6
  match row, hI, hR, t6 with
  | [], _, _, t6 => rw [t6] at h6; exact absurd (Nat.le_refl 0) h6
  | q :: rest, hI, hR, t6 =>
    have hn := hI.2.2.1
    have h3 := hI.2.2.2
    have hl := hI.le
    simp only [List.length_cons] at hl t6
    have hq : q < 3 := h3 q (by simp)
    have hnq := (List.nodup_cons.mp hn).1
    have hnr := (List.nodup_cons.mp hn).2
    have h3r : ∀ x ∈ rest, x < 3 := fun x hx => h3 x (List.mem_cons_of_mem _ hx)
    have e7 : tn (f 7) = q := tn_of (hI.2.1 0 q rfl) (by omega)
    have e1 : u 1 1 = f 1 := hC.2.2.2.1 1 (by decide)
    obtain ⟨p1, p2⟩ := poll_eq hq (queueAt_some (i := 0) hR hn h3 rfl)
    obtain ⟨l1, l2, l3, l4⟩ := poll_loop hq (tn (f 1)) u f hC hw
    rw [e1, l2] at p1 p2
    have hrow := polls_row hI
    have hW2 := (RF_polls hRF (by omega)).1
    obtain ⟨u1, hu1⟩ : ∃ u1, lp_pollG q (tn (f 1)) u = u1 := ⟨_, rfl⟩
    obtain ⟨f1, hf1⟩ : ∃ f1, lp_polls q (tn (f 1)) f = f1 := ⟨_, rfl⟩
    obtain ⟨n, hn1⟩ : ∃ n, lp_pollsN q (tn (f 1)) f = n := ⟨_, rfl⟩
    have ag : AG f f1 := by rw [← hf1]; exact AG_polls q _ f
    rw [hu1, hf1] at l1
    rw [hu1] at l3
    rw [hf1, hn1] at l4
    rw [hu1, hn1] at p1
    rw [hn1] at p2
    have hR1 : SR u1 (q :: rest) := SR_cong hR l3
    have hR2 : SR (leaveG q u1) rest := leave_row hq hn h3 hR1
    have hf2 : m_X5_polls_f f = m_pollsrest_f2 (lp_shift rest.length 1 f1) (0 + n) q (rest.length + 1) := by
      rw [m_X5_polls_f, e7, t6, hf1, hn1, Nat.add_sub_cancel]
    obtain ⟨f2, hf2e⟩ : ∃ f2, lp_shift rest.length 1 f1 = f2 := ⟨_, rfl⟩
    have sh : ∀ j, j < 7 ∨ 9 ≤ j → f2 j = f1 j := fun j hj => by rw [← hf2e, shift_at _ _ _ _ (Nat.le_refl 1), if_neg (by omega)]
    rw [hf2e] at hf2
    have ec : leaveG q u1 1 1 = f 1 := by rw [leave_hd 1 (by decide), l1.2.2.2.1 1 (by decide), ag 1 (by decide)]
    have ec2 : f2 1 = f 1 := by rw [sh 1 (by decide), ag 1 (by decide)]
    rw [hf2] at hrow hW2
    rw [p1, p2, hf2, PRG, m_pollsrest_f2, ec, ec2]
    rw [m_pollsrest_f2, ec2] at hrow hW2
    rw [hn1] at hrow
    by_cases c : f 1 ≤ nI (0 + n)
    · rw [if_pos c] at hrow hW2 ⊢
      rw [if_pos c] at hrow ⊢
      have hC2 : CORE (st2 (leaveG q u1) (6 + q) (upd (leaveG q u1 (6 + q)) 3 (m_X0_rowLength_r (leaveG q u1)))) (upd f2 (7 + (rest.length + 1) - 1) (nI q)) := by
        refine CORE_cong l1 (fun k hk => (st2_n (by omega)).trans (leave_hd k hk)) (fun p hp i hi => ?_) (fun j hj => (pk_un (by omega)).trans (sh j (by omega))) (fun j h1 h2 => (pk_un (by omega)).trans (sh j (by omega)))
        by_cases e : p = q
        · subst e
          rw [st2_s, pk_un hi]
          exact leave_q p hp i hi
        · rw [st2_n (by omega)]
          exact leave_q p hp i hi
      refine ⟨⟨hC2, hW2, rest ++ [q], hrow, SR_app hq hR2 hnq (pk_us.trans (rowLength_eq hR2 hnr h3r))⟩, allOf_3 hq (fun p hp => ?_)⟩
      rw [g_hd (by omega), ← hf2e]
      have e : m_X5_get_r (lp_shift rest.length 1 f1) p 5 = m_X5_get_r f1 p 5 := by rw [hf2e]; exact sh _ (by omega)
      rw [e, l4 p hp, Nat.zero_add]
    · rw [if_neg c] at hrow hW2 ⊢
      rw [if_neg c] at hrow ⊢
      have hC3 : CORE (leaveG q u1) (upd (upd f2 6 (nI (rest.length + 1 - 1))) (7 + (rest.length + 1 - 1)) (nI 0)) := by
        refine CORE_cong l1 (fun k hk => leave_hd k hk) (fun p hp i hi => leave_q p hp i hi) (fun j hj => (pk_un (by omega)).trans ((pk_un (by omega)).trans (sh j (by omega)))) (fun j h1 h2 => (pk_un (by omega)).trans ((pk_un (by omega)).trans (sh j (by omega))))
      refine ⟨⟨CORE_idle hq hC3, hW2, rest, hrow, SR_cong hR2 (fun p hp => ?_)⟩, allOf_3 hq (fun p hp => ?_)⟩
      · by_cases e : p = q
        · subst e
          rw [st2_s, idle_eq]
          rfl
        · rw [st2_n (by omega)]
      · rw [leaves_eq]
        have e : m_X5_get_r (upd (upd f2 6 (nI (rest.length + 1 - 1))) (7 + (rest.length + 1 - 1)) (nI 0)) p 5 = m_X5_get_r f1 p 5 := by
          rw [g_hd (by omega), g_hd (by omega)]
          exact sh _ (by omega)
        by_cases eq : p = q
        · subst eq
          rw [g_lays_w (by decide), g_lays_w (by decide), e, l4 p hp, Nat.zero_add]
        · rw [g_lays_q eq (by decide) (by decide), g_lays_q eq (by decide) (by decide), e, l4 p hp, Nat.zero_add]
