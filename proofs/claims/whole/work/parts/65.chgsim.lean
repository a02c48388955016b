/-! Changes, side by side: settings, bounds, masks, calls by hand, ticks -/
/-- settings and bounds lie where they may -/
def ST (f : Nat → Int32) : Prop := (∀ j, j < 4 → ¬ f j < 0) ∧ 1 ≤ tn (f 1) ∧ (∀ q, q < 3 → ¬ m_X5_get_r f q 0 < 0 ∧ ∃ w, m_X5_get_r f q 1 = nI w ∧ 1 ≤ w ∧ w ≤ 99)
theorem ST_cong {f g : Nat → Int32} (h : ST f) (hd : ∀ j, j < 4 → g j = f j) (hg : ∀ q, q < 3 → m_X5_get_r g q 0 = m_X5_get_r f q 0 ∧ m_X5_get_r g q 1 = m_X5_get_r f q 1) : ST g := by
  refine ⟨fun j hj => by rw [hd j hj]; exact h.1 j hj, by rw [hd 1 (by decide)]; exact h.2.1, fun q hq => ?_⟩
  rw [(hg q hq).1, (hg q hq).2]
  exact h.2.2 q hq
/-- what a call of a change did to the reference -/
def CHG (z f hi : Nat → Int32) (r : Int32) (z' f' hi' : Nat → Int32) : Prop := (r < 0 ∧ z' = z ∧ f' = f ∧ hi' = hi) ∨ (¬ r < 0 ∧ z' = m_X5_changes_z z ∧ hi' = m_X5_changes_hi z f hi)
theorem poll01 {q : Nat} : ∀ (r : Nat) (u : CS), ∀ p, p < 3 → ∀ i, i < 2 → lp_pollG q r u (6 + p) i = u (6 + p) i := by
  intro r
  induction r with
  | zero => intro u p _ i _; rfl
  | succ r ih =>
    intro u p hp i hi
    rw [lp_pollG]
    split
    · rfl
    · rw [ih _ p hp i hi]
      unfold takeG
      by_cases e : p = q
      · subst e
        rw [st2_s, m_X0_takeOldest_q, note_eq]
        rcases (by omega : i = 0 ∨ i = 1) with rfl | rfl <;> rfl
      · rw [st2_n (by omega), st2_n (by omega), st2_n (by omega)]
theorem PRG01 {q t : Nat} {u : CS} : ∀ p, p < 3 → ∀ i, i < 2 → PRG q u t (6 + p) i = u (6 + p) i := by
  intro p hp i hi
  have hl := leave_q (q := q) (u := u) p hp i (by omega)
  unfold PRG
  split
  · by_cases e : p = q
    · subst e; rw [st2_s, pk_un (by omega)]; exact hl
    · rw [st2_n (by omega)]; exact hl
  · by_cases e : p = q
    · subst e; rw [st2_s, idle_eq, pk_un (by omega), pk_un (by omega)]; exact hl
    · rw [st2_n (by omega)]; exact hl
theorem pollN_le {q : Nat} : ∀ (r : Nat) (u : CS), lp_pollNG q r u ≤ r := by
  intro r
  induction r with
  | zero => intro u; exact Nat.le_refl _
  | succ r ih =>
    intro u
    rw [lp_pollNG]
    split
    · omega
    · have := ih (takeG q u); omega
theorem pollS {u : CS} {f : Nat → Int32} (h : SIM u f) : (∀ p, p < 3 → ∀ i, i < 2 → m_X0_poll_u u (6 + p) i = u (6 + p) i) ∧ ∃ t, t ≤ 16 ∧ m_X0_poll_r u = nI t := by
  by_cases c : tn (f 6) ≤ 0
  · obtain ⟨h1, h2⟩ := poll_nil h c
    rw [h1, h2]
    exact ⟨fun _ _ _ _ => rfl, 0, by decide, rfl⟩
  · have hb := h.1.1.2.2.2
    obtain ⟨-, -, row, hI, hR⟩ := h
    have t6 := hI.tn6
    match row, hI, hR, t6 with
    | [], _, _, t6 => rw [t6] at c; exact absurd (Nat.le_refl 0) c
    | q :: rest, hI, hR, t6 =>
      have hq : q < 3 := hI.2.2.2 q (by simp)
      obtain ⟨p1, p2⟩ := poll_eq hq (queueAt_some (i := 0) hR hI.2.2.1 hI.2.2.2 rfl)
      rw [p1, p2]
      refine ⟨fun p hp i hi => by rw [PRG01 p hp i hi, poll01 _ _ p hp i hi], _, ?_, rfl⟩
      have := pollN_le (q := q) (tn (u 1 1)) u
      omega
theorem callG01 {q : Nat} {u : CS} : ∀ p i, i < 2 → callG q u (6 + p) i = u (6 + p) i := by
  intro p i hi
  unfold callG enterG
  split
  · by_cases e : p = q
    · subst e; rw [st2_s, pk_un (by omega), pk_un (by omega), pk_un (by omega)]
    · rw [st2_n (by omega)]
  · rfl
theorem ST_tick {u : CS} {f : Nat → Int32} (h : SIM u f) (hs : ST f) : ST (m_X5_tick_f f) ∧ ∃ t, t ≤ 16 ∧ m_X0_tick_r u = nI t := by
  obtain ⟨p1, p2⟩ := pollS h
  obtain ⟨t1, t2⟩ := tick_G u
  have h' := (SIM_tick h).1
  have e : ∀ q, q < 3 → ∀ i, i < 2 → m_X0_tick_u u (6 + q) i = u (6 + q) i := by
    intro q hq i hi
    rw [t1]
    unfold tick1
    rw [st2_n (by omega), callG01 q i hi, callG01 q i hi, callG01 q i hi, p1 q hq i hi]
  refine ⟨ST_cong hs (fun j hj => AS_tick j (Or.inl hj)) (fun q hq => ⟨?_, ?_⟩), by rw [t2]; exact p2⟩
  · have a := (h'.1.2.2.2.2.2 q hq).1 0 (by decide)
    have b := (h.1.2.2.2.2.2 q hq).1 0 (by decide)
    rw [← a, ← b]
    exact e q hq 0 (by decide)
  · have a := (h'.1.2.2.2.2.2 q hq).1 1 (by decide)
    have b := (h.1.2.2.2.2.2 q hq).1 1 (by decide)
    rw [← a, ← b]
    exact e q hq 1 (by decide)
theorem ST_run : ∀ (n : Nat) {u : CS} {f : Nat → Int32}, SIM u f → ST f → ST (lp_ticks n f) ∧ ∀ t : Nat, ∃ t', t' ≤ t + 16 * n ∧ lp_runR n u (nI t) = nI t' := by
  intro n
  induction n with
  | zero => intro u f _ hs; exact ⟨hs, fun t => ⟨t, by omega, rfl⟩⟩
  | succ n ih =>
    intro u f h hs
    obtain ⟨h1, t1, ht1, e1⟩ := ST_tick h hs
    obtain ⟨g1, g2⟩ := ih (SIM_tick h).1 h1
    refine ⟨g1, fun t => ?_⟩
    obtain ⟨t', ht', e'⟩ := g2 (t + t1)
    refine ⟨t', by omega, ?_⟩
    rw [lp_runR, e1, nI_add, e']
theorem in0 {x lo up : Int32} {l2 u2 : Int64} (hl : l2.toInt = lo.toInt) (hu : u2.toInt = up.toInt) : m_X5_in_r x.toInt64 l2 u2 = 0 ↔ (x < lo ∨ up < x) := by
  unfold m_X5_in_r
  rw [Int32.lt_iff_toInt_lt, Int32.lt_iff_toInt_lt, ← hl, ← hu]
  by_cases c1 : x.toInt64 < l2
  · rw [if_pos c1]
    rw [Int64.lt_iff_toInt_lt, Int32.toInt_toInt64] at c1
    exact ⟨fun _ => Or.inl c1, fun _ => rfl⟩
  · rw [if_neg c1]
    rw [Int64.lt_iff_toInt_lt, Int32.toInt_toInt64] at c1
    by_cases c2 : u2 < x.toInt64
    · rw [if_pos c2]
      rw [Int64.lt_iff_toInt_lt, Int32.toInt_toInt64] at c2
      exact ⟨fun _ => Or.inr c2, fun _ => rfl⟩
    · rw [if_neg c2]
      rw [Int64.lt_iff_toInt_lt, Int32.toInt_toInt64] at c2
      exact ⟨fun h => absurd h (by decide), fun h => by omega⟩
theorem isq_eq (x : Int32) : m_X4_isQueue_r x = 0 ↔ m_X5_isQueue_r x = 0 := by
  have h : m_X5_isQueue_r x = 0 ↔ (x < 0 ∨ 2 < x) := in0 (lo := 0) (up := 2) rfl rfl
  rw [h]
  unfold m_X4_isQueue_r
  have e3 : (nI 3).toInt = 3 := by decide
  have e2 : (2 : Int32).toInt = 2 := by decide
  by_cases c1 : x < 0
  · rw [if_pos c1]; exact ⟨fun _ => Or.inl c1, fun _ => rfl⟩
  · rw [if_neg c1]
    by_cases c2 : nI 3 ≤ x
    · rw [if_pos c2]
      refine ⟨fun _ => Or.inr ?_, fun _ => rfl⟩
      rw [Int32.le_iff_toInt_le] at c2
      rw [Int32.lt_iff_toInt_lt]
      omega
    · rw [if_neg c2]
      refine ⟨fun h => absurd h (by decide), fun h => ?_⟩
      rcases h with h | h
      · exact absurd h c1
      · rw [Int32.le_iff_toInt_le] at c2
        rw [Int32.lt_iff_toInt_lt] at h
        omega
theorem isqj5 {x : Int32} (h : ¬ m_X5_isQueue_r x = 0) : ∃ j, j < 3 ∧ x = nI j := isqj (fun e => h ((isq_eq x).mp e))
/-! set -/
theorem SIM_set {u : CS} {f : Nat → Int32} {j : Nat} {v : Int32} (h : SIM u f) (hj : j < 4) (h1 : j = 1 → v = nI (tn v) ∧ tn v ≤ 16) : SIM (st2 u 1 (upd (u 1) j v)) (upd f j v) := by
  obtain ⟨hC, hw, row, hI, hR⟩ := h
  obtain ⟨hM, e4, e5, hS, hF, hQ⟩ := hC
  have w : ∀ c, c ≠ 1 → st2 u 1 (upd (u 1) j v) c = u c := fun c hc => st2_n hc
  have w1 : st2 u 1 (upd (u 1) j v) 1 = upd (u 1) j v := st2_s
  have hg : ∀ i, i ≠ j → upd f j v i = f i := fun i hi => pk_un hi
  have hcn : cn (st2 u 1 (upd (u 1) j v)) = cn u := by show tn (st2 u 1 (upd (u 1) j v) 0 3) = _; rw [w 0 (by decide)]
  have ha : ∀ i w, m_X5_frameAt_r (upd f j v) i w = m_X5_frameAt_r f i w := fun i w => a_hd (by omega)
  have hi : ∀ p k, m_X5_isInRing_r (upd f j v) k p = m_X5_isInRing_r f k p := fun p k => isin_eq (fun w _ => ha k w)
  have e1 : upd f j v 1 = nI (tn (upd f j v 1)) ∧ tn (upd f j v 1) ≤ 16 := by
    by_cases e : j = 1
    · subst e; rw [pk_us]; exact h1 rfl
    · rw [hg 1 (fun z => e z.symm)]; exact hw.2.2.1
  have eu1 : ∀ k, k < 4 → upd (u 1) j v k = upd f j v k := by
    intro k hk
    by_cases e : k = j
    · subst e; rw [pk_us, pk_us]
    · rw [pk_un e, pk_un e]; exact hS k hk
  refine ⟨⟨?_, ?_, ?_, fun k hk => by rw [w1]; exact eu1 k hk, fun i hi2 => ?_, fun p hp => ?_⟩, ?_, row, ?_, ?_⟩
  · unfold CM
    rw [hcn, w 0 (by decide), w1, eu1 1 (by decide)]
    exact ⟨hM.1, hM.2.1, e1.1, e1.2⟩
  · rw [w 0 (by decide), hg 4 (by omega)]; exact e4
  · rw [w 0 (by decide), hg 5 (by omega)]; exact e5
  · rw [hcn] at hi2
    exact FRM_cong (w 2 (by decide)) (w 3 (by decide)) (w 4 (by decide)) (w 5 (by decide)) (fun w _ => ha i w) (hF i hi2)
  · unfold SQ
    rw [w _ (by omega), ring_eq (hg 5 (by omega)) (fun k _ => hi p k), oldest_eq (hg 5 (by omega)) (fun k _ => hi p k)]
    exact ⟨fun w hw => by rw [g_hd (by omega)]; exact (hQ p hp).1 w hw, (hQ p hp).2⟩
  · unfold WF
    rw [hg 5 (by omega), hg 6 (by omega)]
    exact ⟨hw.1, hw.2.1, e1, fun i hi => by rw [hg _ (by omega)]; exact hw.2.2.2 i hi⟩
  · exact ⟨(hg 6 (by omega)).trans hI.1, fun i y hy => (hg _ (by omega)).trans (hI.2.1 i y hy), hI.2.2⟩
  · exact SR_cong hR (fun q hq => by rw [w _ (by omega)])
theorem k_nn {x : Int32} (h : ¬ x < nI 0) : ¬ x < 0 := h
theorem isset_eq {x v : Int32} {j : Nat} (hx : x = nI j) (hj : j < 4) : m_X5_isSetting_r x v = 0 ↔ (v < SVi 0 j ∨ SVi 1 j < v) := by
  subst hx
  unfold m_X5_isSetting_r
  rcases (by omega : j = 0 ∨ j = 1 ∨ j = 2 ∨ j = 3) with rfl | rfl | rfl | rfl
  · rw [if_pos rfl]; exact in0 (lo := 1) (up := 32) rfl rfl
  · rw [if_neg (by decide +kernel), if_pos rfl]; exact in0 (lo := 1) (up := 16) rfl rfl
  · rw [if_neg (by decide +kernel), if_neg (by decide +kernel), if_pos rfl]; exact in0 (lo := 0) (up := 1) rfl rfl
  · rw [if_neg (by decide +kernel), if_neg (by decide +kernel), if_neg (by decide +kernel), if_pos rfl]; exact in0 (lo := 0) (up := 50) rfl rfl
theorem S_set {u : CS} {z f hi : Nat → Int32} {x v : Int32} (h : SIM u f) (hs : ST f) : m_X0_changeSetting_r u x v = m_X5_set_r f x v ∧ SIM (m_X0_changeSetting_u u x v) (m_X5_set_f f x v) ∧ ST (m_X5_set_f f x v) ∧ CHG z f hi (m_X5_set_r f x v) (m_X5_set_z z x v) (m_X5_set_f f x v) (m_X5_set_hi z f hi x v) := by
  by_cases hx : ∃ j, j < 4 ∧ x = nI j
  · obtain ⟨j, hj, hx⟩ := hx
    have hi0 := isset_eq (v := v) hx hj
    have ej : tn x = j := tn_of hx (by omega)
    have ex0 : ¬ x < 0 := by rw [hx]; exact nI_pos (by omega)
    have ex4 : x < nI 4 := by rw [hx]; exact (nI_ltI (by omega) (by decide)).mpr hj
    rw [m_X0_changeSetting_r, m_X0_changeSetting_u, m_X5_set_r, m_X5_set_f, m_X5_set_z, m_X5_set_hi, if_neg ex0, if_pos ex4, if_neg ex0, if_pos ex4, ej]
    by_cases c1 : v < SVi 0 j
    · have c : m_X5_isSetting_r x v = 0 := hi0.mpr (Or.inl c1)
      rw [if_pos c1, if_pos c1, if_pos c, if_pos c, if_pos c, if_pos c]
      exact ⟨rfl, h, hs, Or.inl ⟨by decide, rfl, rfl, rfl⟩⟩
    · rw [if_neg c1, if_neg c1]
      by_cases c2 : v ≤ SVi 1 j
      · have c : ¬ m_X5_isSetting_r x v = 0 := fun e => by
          rcases hi0.mp e with e | e
          · exact c1 e
          · exact (Int32.not_lt.mpr c2) e
        rw [if_pos c2, if_pos c2, if_neg c, if_neg c, if_neg c, if_neg c]
        have hv0 : ¬ v < 0 := by
          intro hv
          refine c1 (Int32.lt_of_lt_of_le hv ?_)
          rcases (by omega : j = 0 ∨ j = 1 ∨ j = 2 ∨ j = 3) with rfl | rfl | rfl | rfl <;> decide
        have h16 : j = 1 → v = nI (tn v) ∧ tn v ≤ 16 := by
          rintro rfl
          exact k_len (n := 16) (by decide) hv0 c2
        refine ⟨h.1.2.2.2.1 j hj, SIM_set h hj h16, ⟨fun k hk => ?_, ?_, fun q hq => ?_⟩, Or.inr ⟨hs.1 j hj, rfl, rfl⟩⟩
        · by_cases e : k = j
          · subst e; rw [pk_us]; exact hv0
          · rw [pk_un e]; exact hs.1 k hk
        · by_cases e : j = 1
          · subst e
            rw [pk_us]
            have e2 := (h16 rfl).1
            rcases Nat.eq_zero_or_pos (tn v) with g | g
            · rw [g] at e2; rw [e2] at c1; exact absurd (by decide) c1
            · exact g
          · rw [pk_un (fun z => e z.symm)]; exact hs.2.1
        · rw [g_hd (by omega), g_hd (by omega)]; exact hs.2.2 q hq
      · have c : m_X5_isSetting_r x v = 0 := hi0.mpr (Or.inr (Int32.not_le.mp c2))
        rw [if_neg c2, if_neg c2, if_pos c, if_pos c, if_pos c, if_pos c]
        exact ⟨rfl, h, hs, Or.inl ⟨by decide, rfl, rfl, rfl⟩⟩
  · have n : ∀ j, j < 4 → ¬ x = nI j := fun j hj e => hx ⟨j, hj, e⟩
    have c : m_X5_isSetting_r x v = 0 := by
      unfold m_X5_isSetting_r
      rw [if_neg (n 0 (by decide)), if_neg (n 1 (by decide)), if_neg (n 2 (by decide)), if_neg (n 3 (by decide))]
      rfl
    rw [m_X5_set_r, m_X5_set_f, m_X5_set_z, m_X5_set_hi, if_pos c, if_pos c, if_pos c, if_pos c, m_X0_changeSetting_r, m_X0_changeSetting_u]
    by_cases c0 : x < 0
    · rw [if_pos c0, if_pos c0]
      exact ⟨rfl, h, hs, Or.inl ⟨by decide, rfl, rfl, rfl⟩⟩
    · rw [if_neg c0, if_neg c0]
      by_cases c4 : x < nI 4
      · obtain ⟨e, he⟩ := k_ltn (by decide) c0 c4
        exact absurd e (n _ he)
      · rw [if_neg c4, if_neg c4]
        exact ⟨rfl, h, hs, Or.inl ⟨by decide, rfl, rfl, rfl⟩⟩
/-! bounds -/
theorem SIM_bounds {u : CS} {f : Nat → Int32} {j : Nat} {c w : Int32} (h : SIM u f) (hj : j < 3) : SIM (st2 u (6 + j) (upd (upd (upd (u (6 + j)) 0 c) 1 w) 2 c)) (m_X5_doBounds_f f j c w) := by
  obtain ⟨hC, hw, row, hI, hR⟩ := h
  obtain ⟨b0, b1, b2, b3⟩ := hC.2.2.2.2.2 j hj
  refine ⟨?_, WF_ag hw AG_doBounds, row, RI_ag hI AG_doBounds, SR_cong hR (fun q hq => ?_)⟩
  · rw [m_X5_doBounds_f]
    refine CORE_q hj hC (fun i hi => AG_lays (AG_lays (AG_lays (AG.rf f))) i (by omega)) (fun i _ w _ => by rw [a_lays hj (by decide), a_lays hj (by decide), a_lays hj (by decide)]) (fun p hp hn w hw => by rw [g_lays_q hn (by decide) hw, g_lays_q hn (by decide) hw, g_lays_q hn (by decide) hw]) ?_ rfl rfl b3
    refine lt10 ?_ ?_ ?_ ?_ ?_ ?_ ?_ ?_ ?_ ?_
    · rw [g_lays_w (by decide), g_lays_w (by decide), g_lays_s]; rfl
    · rw [g_lays_w (by decide), g_lays_s]; rfl
    · rw [g_lays_s]; rfl
    · rw [g_lays_w (by decide), g_lays_w (by decide), g_lays_w (by decide)]; exact b0 3 (by decide)
    · rw [g_lays_w (by decide), g_lays_w (by decide), g_lays_w (by decide)]; exact b0 4 (by decide)
    · rw [g_lays_w (by decide), g_lays_w (by decide), g_lays_w (by decide)]; exact b0 5 (by decide)
    · rw [g_lays_w (by decide), g_lays_w (by decide), g_lays_w (by decide)]; exact b0 6 (by decide)
    · rw [g_lays_w (by decide), g_lays_w (by decide), g_lays_w (by decide)]; exact b0 7 (by decide)
    · rw [g_lays_w (by decide), g_lays_w (by decide), g_lays_w (by decide)]; exact b0 8 (by decide)
    · rw [g_lays_w (by decide), g_lays_w (by decide), g_lays_w (by decide)]; exact b0 9 (by decide)
  · by_cases e : q = j
    · subst e; rw [st2_s]; rfl
    · rw [st2_n (by omega)]
theorem ST_bounds {f : Nat → Int32} {j wn : Nat} {c : Int32} (h : ST f) (hj : j < 3) (hc : ¬ c < 0) (h1 : 1 ≤ wn) (h9 : wn ≤ 99) : ST (m_X5_doBounds_f f j c (nI wn)) := by
  refine ⟨fun i hi => by rw [AG_doBounds i (by omega)]; exact h.1 i hi, by rw [AG_doBounds 1 (by decide)]; exact h.2.1, fun q hq => ?_⟩
  rw [m_X5_doBounds_f]
  by_cases e : q = j
  · subst e
    rw [g_lays_w (by decide), g_lays_w (by decide), g_lays_s, g_lays_w (by decide), g_lays_s]
    exact ⟨hc, wn, rfl, h1, h9⟩
  · rw [g_lays_q e (by decide) (by decide), g_lays_q e (by decide) (by decide), g_lays_q e (by decide) (by decide), g_lays_q e (by decide) (by decide), g_lays_q e (by decide) (by decide), g_lays_q e (by decide) (by decide)]
    exact h.2.2 q hq
theorem areb_eq {c w : Int32} : m_X5_areBounds_r c w = 0 ↔ (c < nI 1 ∨ nI 32 < c ∨ w < nI 1 ∨ ¬ w ≤ nI 99) := by
  have h1 : m_X5_in_r c.toInt64 1 32 = 0 ↔ (c < nI 1 ∨ nI 32 < c) := in0 (lo := nI 1) (up := nI 32) (by decide) (by decide)
  have h2 : m_X5_in_r w.toInt64 1 99 = 0 ↔ (w < nI 1 ∨ nI 99 < w) := in0 (lo := nI 1) (up := nI 99) (by decide) (by decide)
  unfold m_X5_areBounds_r
  rw [Int32.not_le]
  by_cases c1 : m_X5_in_r c.toInt64 1 32 = 0
  · rw [if_pos c1]
    refine ⟨fun _ => ?_, fun _ => rfl⟩
    rcases h1.mp c1 with e | e
    · exact Or.inl e
    · exact Or.inr (Or.inl e)
  · rw [if_neg c1]
    by_cases c2 : m_X5_in_r w.toInt64 1 99 = 0
    · rw [if_pos c2]
      refine ⟨fun _ => ?_, fun _ => rfl⟩
      rcases h2.mp c2 with e | e
      · exact Or.inr (Or.inr (Or.inl e))
      · exact Or.inr (Or.inr (Or.inr e))
    · rw [if_neg c2]
      refine ⟨fun e => absurd e (by decide), fun e => ?_⟩
      rcases e with e | e | e | e
      · exact absurd (h1.mpr (Or.inl e)) c1
      · exact absurd (h1.mpr (Or.inr e)) c1
      · exact absurd (h2.mpr (Or.inl e)) c2
      · exact absurd (h2.mpr (Or.inr e)) c2
theorem cb_eq {u : CS} {j : Nat} {c w : Int32} (hj : j < 3) : (¬ m_X5_areBounds_r c w = 0 → m_X0_changeBounds_r u (nI j) c w = u (6 + j) 0 ∧ m_X0_changeBounds_u u (nI j) c w = st2 u (6 + j) (upd (upd (upd (u (6 + j)) 0 c) 1 w) 2 c)) ∧ (m_X5_areBounds_r c w = 0 → m_X0_changeBounds_r u (nI j) c w = (-2) ∧ m_X0_changeBounds_u u (nI j) c w = u) := by
  rw [areb_eq, m_X0_changeBounds_r, m_X0_changeBounds_u, if_neg (isq_t hj), if_neg (isq_t hj)]
  by_cases c1 : c < nI 1
  · rw [if_pos c1, if_pos c1]; exact ⟨fun n => absurd (Or.inl c1) n, fun _ => ⟨rfl, rfl⟩⟩
  · rw [if_neg c1, if_neg c1]
    by_cases c2 : nI 32 < c
    · rw [if_pos c2, if_pos c2]; exact ⟨fun n => absurd (Or.inr (Or.inl c2)) n, fun _ => ⟨rfl, rfl⟩⟩
    · rw [if_neg c2, if_neg c2]
      by_cases c3 : w < nI 1
      · rw [if_pos c3, if_pos c3]; exact ⟨fun n => absurd (Or.inr (Or.inr (Or.inl c3))) n, fun _ => ⟨rfl, rfl⟩⟩
      · rw [if_neg c3, if_neg c3]
        by_cases c4 : w ≤ nI 99
        · rw [if_pos c4, if_pos c4]
          refine ⟨fun _ => ?_, fun n => ?_⟩
          · rcases (by omega : j = 0 ∨ j = 1 ∨ j = 2) with rfl | rfl | rfl
            · rw [if_pos rfl, if_pos rfl]; exact ⟨rfl, rfl⟩
            · rw [if_neg (by decide +kernel), if_pos rfl, if_neg (by decide +kernel), if_pos rfl]; exact ⟨rfl, rfl⟩
            · rw [if_neg (by decide +kernel), if_neg (by decide +kernel), if_neg (by decide +kernel), if_neg (by decide +kernel)]; exact ⟨rfl, rfl⟩
          · rcases n with n | n | n | n
            · exact absurd n c1
            · exact absurd n c2
            · exact absurd n c3
            · exact absurd c4 n
        · rw [if_neg c4, if_neg c4]; exact ⟨fun n => absurd (Or.inr (Or.inr (Or.inr c4))) n, fun _ => ⟨rfl, rfl⟩⟩
theorem areb_n {c w : Int32} (h : ¬ m_X5_areBounds_r c w = 0) : ¬ c < 0 ∧ ∃ wn, w = nI wn ∧ 1 ≤ wn ∧ wn ≤ 99 := by
  rw [areb_eq] at h
  have h1 : ¬ c < nI 1 := fun e => h (Or.inl e)
  have h3 : ¬ w < nI 1 := fun e => h (Or.inr (Or.inr (Or.inl e)))
  have h4 : w ≤ nI 99 := Classical.byContradiction (fun e => h (Or.inr (Or.inr (Or.inr e))))
  refine ⟨fun e => h1 (Int32.lt_of_lt_of_le e (by decide +kernel)), tn w, k_ge1 h3, ?_, ?_⟩
  · rw [k_ge1 h3, nI_ltI (tn_lt _) (by decide)] at h3; omega
  · rw [k_ge1 h3, nI_leI (tn_lt _) (by decide)] at h4; exact h4
theorem S_bounds {u : CS} {z f hi : Nat → Int32} {x c w : Int32} (h : SIM u f) (hs : ST f) : m_X0_changeBounds_r u x c w = m_X5_bounds_r f x c w ∧ SIM (m_X0_changeBounds_u u x c w) (m_X5_bounds_f f x c w) ∧ ST (m_X5_bounds_f f x c w) ∧ CHG z f hi (m_X5_bounds_r f x c w) (m_X5_bounds_z z x c w) (m_X5_bounds_f f x c w) (m_X5_bounds_hi z f hi x c w) := by
  by_cases cq : m_X5_isQueue_r x = 0
  · have cq4 := (isq_eq x).mpr cq
    rw [m_X5_bounds_r, m_X5_bounds_f, m_X5_bounds_z, m_X5_bounds_hi, if_pos cq, if_pos cq, if_pos cq, if_pos cq, m_X0_changeBounds_r, m_X0_changeBounds_u, if_pos cq4, if_pos cq4]
    exact ⟨rfl, h, hs, Or.inl ⟨by decide, rfl, rfl, rfl⟩⟩
  · obtain ⟨j, hj, rfl⟩ := isqj5 cq
    have ej : tn (nI j) = j := tn_of rfl (by omega)
    obtain ⟨k1, k2⟩ := cb_eq (u := u) (c := c) (w := w) hj
    rw [m_X5_bounds_r, m_X5_bounds_f, m_X5_bounds_z, m_X5_bounds_hi, if_neg cq, if_neg cq, if_neg cq, if_neg cq, ej]
    by_cases cb : m_X5_areBounds_r c w = 0
    · rw [if_pos cb, if_pos cb, if_pos cb, if_pos cb, (k2 cb).1, (k2 cb).2]
      exact ⟨rfl, h, hs, Or.inl ⟨by decide, rfl, rfl, rfl⟩⟩
    · rw [if_neg cb, if_neg cb, if_neg cb, if_neg cb, (k1 cb).1, (k1 cb).2]
      obtain ⟨n1, wn, rfl, n2, n3⟩ := areb_n cb
      exact ⟨(h.1.2.2.2.2.2 j hj).1 0 (by decide), SIM_bounds h hj, ST_bounds hs hj n1 n2 n3, Or.inr ⟨(hs.2.2 j hj).1, rfl, rfl⟩⟩
