/-! A card on which all is well -/
def WQ (u : CS) (q : Nat) : Prop :=
  (BB (u (6 + q) 4) ∧ ¬ u (6 + q) 0 < 0) ∧ u (6 + q) 5 = nI (nS u q (nI 0) (cn u)) ∧ OLD u q (cn u) (u (6 + q) 6) ∧ u (6 + q) 8 = nI (nS u q (nI 1) (cn u)) ∧ u (6 + q) 9 = nI (nS u q (nI 2) (cn u)) ∧ u (6 + q) 10 = sW u q (cn u) ∧ u (6 + q) 11 = mW u q (cn u) ∧ (∃ c, u (6 + q) 2 = nI c ∧ 1 ≤ c ∧ c ≤ 32) ∧ (∃ s, u (6 + q) 12 = nI s ∧ s ≤ nS u q (nI 1) (cn u)) ∧ (u (6 + q) 3 = (-1) → u (6 + q) 12 = nI 0) ∧ ∀ i j, i < j → j < cn u → FR u q (nI 0) i → ¬ FR u q (nI 1) j
def WFr (u : CS) (T : Nat) : Prop := ∀ i, i < cn u → ((∃ v, v ≤ 99 ∧ u 2 i = nI v) ∧ (u 4 i = nI 0 ∨ u 4 i = nI 1 ∨ u 4 i = nI 2)) ∧ ∃ c, u 3 i = nI c ∧ c ≤ T ∧ (u 4 i = nI 1 → ∃ d, u 5 i = nI d ∧ c ≤ d ∧ d ≤ T)
def WSt (u : CS) : Prop := (∃ b, u 1 1 = nI b ∧ 1 ≤ b ∧ b ≤ 16) ∧ ∃ r, u 1 0 = nI r ∧ 1 ≤ r ∧ r ≤ 32
def WL (u : CS) (T : Nat) : Prop := CM u ∧ u 0 2 = nI T ∧ WSt u ∧ WFr u T ∧ (∀ q, q < 3 → WQ u q) ∧ ∃ row, SR u row ∧ row.Nodup ∧ ∀ x ∈ row, x < 3
theorem nS_f {u u' : CS} {p : Nat} {s : Int32} (h2 : u' 2 = u 2) (h4 : u' 4 = u 4) (n : Nat) : nS u' p s n = nS u p s n := nS_cong n (fun i _ => ⟨by rw [h2], by rw [h4]⟩)
theorem sW_f {u u' : CS} {p : Nat} (h2 : u' 2 = u 2) (h3 : u' 3 = u 3) (h4 : u' 4 = u 4) (h5 : u' 5 = u 5) (n : Nat) : sW u' p n = sW u p n ∧ mW u' p n = mW u p n := sW_cong n (fun i _ => ⟨by rw [h2], by rw [h4], by rw [h3], fun _ => by rw [h5]⟩)
theorem FR_f {u u' : CS} {p : Nat} {s : Int32} {i : Nat} (h2 : u' 2 = u 2) (h4 : u' 4 = u 4) : FR u' p s i ↔ FR u p s i := by unfold FR; rw [h2, h4]
/-- the frames are as they were, a queue may differ in its bounds, its mask, its place and what it counts since its call -/
theorem WQ_of {u u' : CS} {q : Nat} (h : WQ u q) (hc : cn u' = cn u) (h2 : u' 2 = u 2) (h3 : u' 3 = u 3) (h4 : u' 4 = u 4) (h5 : u' 5 = u 5) (e : ∀ i, (i = 5 ∨ i = 6 ∨ i = 8 ∨ i = 9 ∨ i = 10 ∨ i = 11) → u' (6 + q) i = u (6 + q) i) (b4 : BB (u' (6 + q) 4) ∧ ¬ u' (6 + q) 0 < 0) (b2 : ∃ c, u' (6 + q) 2 = nI c ∧ 1 ≤ c ∧ c ≤ 32) (b12 : ∃ s, u' (6 + q) 12 = nI s ∧ s ≤ nS u q (nI 1) (cn u)) (b3 : u' (6 + q) 3 = (-1) → u' (6 + q) 12 = nI 0) : WQ u' q := by
  obtain ⟨a0, a1, a2, a3, a4, a5, a6, -, -, -, a10⟩ := h
  obtain ⟨s1, s2⟩ := sW_f (p := q) h2 h3 h4 h5 (cn u)
  unfold WQ
  rw [hc, e 5 (by decide), e 6 (by decide), e 8 (by decide), e 9 (by decide), e 10 (by decide), e 11 (by decide), nS_f h2 h4, nS_f h2 h4, nS_f h2 h4, s1, s2]
  exact ⟨b4, a1, OLD_cong a2 (fun i _ => FR_f h2 h4), a3, a4, a5, a6, b2, b12, b3, fun i j hij hj hi => by
    rw [FR_f h2 h4] at hi ⊢
    exact a10 i j hij hj hi⟩
theorem WQ_same {u u' : CS} {q : Nat} (h : WQ u q) (hc : cn u' = cn u) (h2 : u' 2 = u 2) (h3 : u' 3 = u 3) (h4 : u' 4 = u 4) (h5 : u' 5 = u 5) (e : ∀ i, i ≠ 3 → i ≠ 7 → u' (6 + q) i = u (6 + q) i) (b3 : u' (6 + q) 3 = (-1) → u (6 + q) 3 = (-1)) : WQ u' q := by
  have h' := h
  obtain ⟨a0, -, -, -, -, -, -, a7, a8, a9, -⟩ := h'
  refine WQ_of h hc h2 h3 h4 h5 (fun i hi => e i (by omega) (by omega)) ?_ ?_ ?_ ?_
  · rw [e 4 (by decide) (by decide), e 0 (by decide) (by decide)]; exact a0
  · rw [e 2 (by decide) (by decide)]; exact a7
  · rw [e 12 (by decide) (by decide)]; exact a8
  · rw [e 12 (by decide) (by decide)]; exact fun z => a9 (b3 z)
theorem WFr_of {u u' : CS} {T T' : Nat} (h : WFr u T) (hT : T ≤ T') (hc : cn u' = cn u) (h2 : u' 2 = u 2) (h3 : u' 3 = u 3) (h4 : u' 4 = u 4) (h5 : u' 5 = u 5) : WFr u' T' := by
  intro i hi
  rw [hc] at hi
  obtain ⟨a, c, b1, b2, b3⟩ := h i hi
  rw [h2, h3, h4, h5]
  refine ⟨a, c, b1, by omega, fun e => ?_⟩
  obtain ⟨d, d1, d2, d3⟩ := b3 e
  exact ⟨d, d1, d2, by omega⟩
theorem WQ.lt {u : CS} {q : Nat} (h : WQ u q) {x : Int32} (hx : u (6 + q) 6 = x) (hn : ¬ x = (-6)) : ∃ o, x = nI o ∧ o < cn u ∧ FR u q (nI 0) o ∧ ∀ i, i < o → ¬ FR u q (nI 0) i := by
  rcases h.2.2.1 with ⟨e, -⟩ | g
  · exact absurd (hx.symm.trans e) hn
  · rw [hx] at g; exact g
/-- an oldest frame is there just when the oldest is a frame -/
theorem has_old {u : CS} {q : Nat} (hM : CM u) (h : OLD u q (cn u) (u (6 + q) 6)) : m_X0_hasFrame_r u (u (6 + q) 6) = 0 ↔ u (6 + q) 6 = (-6) := by
  have hc := hM.2.1
  rcases h with ⟨e, -⟩ | ⟨o, e, ho, -⟩
  · rw [e]
    exact ⟨fun _ => rfl, fun _ => by rw [m_X0_hasFrame_r, if_pos (by decide)]; rfl⟩
  · rw [e]
    constructor
    · intro h
      rw [m_X0_hasFrame_r, if_neg (nI_pos (by omega)), hM.1, if_neg (by rw [nI_leI (by omega) (by omega)]; omega)] at h
      exact absurd h (by decide +kernel)
    · intro h
      exact absurd h (k_neg (by omega) (by decide))
/-! one frame is taken -/
theorem WL_take {u : CS} {T q : Nat} (hq : q < 3) (h : WL u T) (hin : ¬ u (6 + q) 3 = (-1)) (ho : ¬ m_X0_hasFrame_r u (u (6 + q) 6) = 0) : WL (takeG q u) T ∧ (∀ p, p < 3 → takeG q u (6 + p) 3 = u (6 + p) 3) ∧ (∀ p, p < 3 → takeG q u (6 + p) 8 = if p = q then u (6 + p) 8 + nI 1 else u (6 + p) 8) := by
  obtain ⟨hM, hT, hS, hF, hQ, row, hR, hn, h3⟩ := h
  have hcM := hM.2.1
  obtain ⟨o, eo, hoc, hfo, hmin⟩ := (hQ q hq).lt rfl (fun e => ho ((has_old hM (hQ q hq).2.2.1).mpr e))
  have et : tn (u (6 + q) 6) = o := tn_of eo (by omega)
  have v0 : takeG q u 0 = u 0 := take_c (by decide) (by decide) (by omega)
  have v1 : takeG q u 1 = u 1 := take_c (by decide) (by decide) (by omega)
  have v2 : takeG q u 2 = u 2 := take_c (by decide) (by decide) (by omega)
  have v3 : takeG q u 3 = u 3 := take_c (by decide) (by decide) (by omega)
  have v4 : takeG q u 4 = upd (u 4) o (nI 1) := by rw [take_4, et]
  have v5 : takeG q u 5 = upd (u 5) o (u 0 2) := by rw [take_5, et]
  have vc : cn (takeG q u) = cn u := take_cn
  have vp : ∀ p, p ≠ q → takeG q u (6 + p) = u (6 + p) := fun p hp => take_c (by omega) (by omega) (by omega)
  obtain ⟨w, ew⟩ : ∃ w, u 0 2 - u 3 o = w := ⟨_, rfl⟩
  obtain ⟨x, ex⟩ : ∃ x, lp_srch (upd (u 4) o (nI 1)) (u 2) (nI q) (cn u - (o + 1)) (o + 1) = x := ⟨_, rfl⟩
  have vq : takeG q u (6 + q) = upd (noteW (u (6 + q)) w) 6 x := by rw [take_q, et, ew, ex]
  have n01 : ¬ nI 0 = nI 1 := by decide +kernel
  have n12 : ¬ nI 1 = nI 2 := by decide +kernel
  have n02 : ¬ nI 0 = nI 2 := by decide +kernel
  have S := fun p s => nS_upd (u := u) (u' := takeG q u) (o := o) (p := p) (y := nI 1) (s := s) v2 v4 (cn u)
  have SW := fun p => sW_upd (u := u) (u' := takeG q u) (o := o) (p := p) (w := w) v2 v4 v3 (fun i hi => by rw [v5, pk_un hi]) (by rw [v5, pk_us, ew]) hfo.1 (cn u)
  have qp : ∀ p, p < 3 → (qof (u 2 o) = nI p ↔ p = q) := fun p hp => by rw [hfo.2, nI_3 hq hp]; exact eq_comm
  have F1 : ∀ p i, i ≠ o → ∀ s, (FR (takeG q u) p s i ↔ FR u p s i) := fun p i hi s => by unfold FR; rw [v2, v4, pk_un hi]
  have F0 : ∀ p, ¬ FR (takeG q u) p (nI 0) o := fun p e => n01 (by have := e.1; rw [v4, pk_us] at this; exact this.symm)
  have hplace : ∀ p, p < 3 → takeG q u (6 + p) 3 = u (6 + p) 3 := take_pl
  have htk : ∀ p, p < 3 → takeG q u (6 + p) 8 = if p = q then u (6 + p) 8 + nI 1 else u (6 + p) 8 := by
    intro p hp
    by_cases e : p = q
    · subst e; rw [if_pos rfl, vq]; rfl
    · rw [if_neg e, vp p e]
  refine ⟨⟨CM_of hM v0 v1, by rw [v0]; exact hT, by unfold WSt; rw [v1]; exact hS, fun i hi => ?_, fun p hp => ?_, row, SR_cong hR hplace, hn, h3⟩, hplace, htk⟩
  · rw [vc] at hi
    obtain ⟨⟨a1, a2⟩, c, b1, b2, b3⟩ := hF i hi
    rw [v2, v3, v4, v5]
    by_cases e : i = o
    · subst e
      rw [pk_us, pk_us]
      exact ⟨⟨a1, Or.inr (Or.inl rfl)⟩, c, b1, b2, fun _ => ⟨T, hT, b2, Nat.le_refl _⟩⟩
    · rw [pk_un e, pk_un e]
      exact ⟨⟨a1, a2⟩, c, b1, b2, b3⟩
  · obtain ⟨a0, a1, a2, a3, a4, a5, a6, a7, a8, a9, a10⟩ := hQ p hp
    have aO : ∀ i j, i < j → j < cn u → FR (takeG q u) p (nI 0) i → ¬ FR (takeG q u) p (nI 1) j := by
      intro i j hij hj hi hk
      have hio : i ≠ o := fun e => F0 p (e ▸ hi)
      rw [F1 p i hio] at hi
      by_cases e : j = o
      · have hpq : p = q := by
          have := hk.2
          rw [v2, e] at this
          exact (qp p hp).mp this
        rw [hpq] at hi
        exact hmin i (by omega) hi
      · rw [F1 p j e] at hk
        exact a10 i j hij hj hi hk
    have s0 := S p (nI 0)
    have s1 := S p (nI 1)
    have s2 := S p (nI 2)
    obtain ⟨w1, w2⟩ := SW p
    rw [hfo.1] at s0 s1 s2
    by_cases e : p = q
    · subst e
      have hz := hfo.2
      rw [if_pos ⟨hoc, rfl, hz⟩, if_neg (fun z => n01 z.2.1.symm)] at s0
      rw [if_neg (fun z => n01 z.2.1), if_pos ⟨hoc, rfl, hz⟩] at s1
      rw [if_neg (fun z => n02 z.2.1), if_neg (fun z => n12 z.2.1)] at s2
      rw [if_pos ⟨hoc, hz⟩] at w1 w2
      have l0 := nS_le u p (nI 0) (cn u)
      have l1 := nS_le u p (nI 1) (cn u)
      unfold WQ
      rw [vc, vq, w1, w2]
      refine ⟨a0, ?_, ?_, ?_, ?_, ?_, ?_, a7, ?_, fun z => absurd z hin, aO⟩
      · show u (6 + p) 5 - nI 1 = _
        rw [a1, pk_sub (by omega)]
        congr 1
        omega
      · show OLD (takeG p u) p (cn u) x
        have hs := srch_spec (upd (u 4) o (nI 1)) (u 2) (nI p) (cn u - (o + 1)) (o + 1)
        rw [ex] at hs
        have fr : ∀ i, (FR (takeG p u) p (nI 0) i ↔ (upd (u 4) o (nI 1) i = nI 0 ∧ qof (u 2 i) = nI p)) := fun i => by unfold FR; rw [v2, v4]
        rcases hs with ⟨h1, h2⟩ | ⟨o2, h1, h2, h3, h4, h5⟩
        · refine Or.inl ⟨h1, fun i hi z => ?_⟩
          by_cases e1 : i < o
          · rw [F1 p i (by omega)] at z; exact hmin i e1 z
          · by_cases e2 : i = o
            · exact F0 p (e2 ▸ z)
            · exact h2 i (by omega) (by omega) ((fr i).mp z)
        · refine Or.inr ⟨o2, h1, by omega, (fr o2).mpr h4, fun i hi z => ?_⟩
          by_cases e1 : i < o
          · rw [F1 p i (by omega)] at z; exact hmin i e1 z
          · by_cases e2 : i = o
            · exact F0 p (e2 ▸ z)
            · exact h5 i (by omega) hi ((fr i).mp z)
      · show u (6 + p) 8 + nI 1 = _
        rw [a3, nI_add]
        congr 1
        omega
      · show u (6 + p) 9 = _
        rw [a4]
        congr 1
        omega
      · show u (6 + p) 10 + w = _
        rw [a5]
      · show (if u (6 + p) 11 < w then w else u (6 + p) 11) = _
        rw [a6]
        rfl
      · obtain ⟨sc, e1, e2⟩ := a8
        refine ⟨sc + 1, ?_, by omega⟩
        show u (6 + p) 12 + nI 1 = _
        rw [e1, nI_add]
    · have hz : ¬ qof (u 2 o) = nI p := fun z => e ((qp p hp).mp z)
      rw [if_neg (fun z => hz z.2.2), if_neg (fun z => hz z.2.2), Nat.add_zero, Nat.add_zero] at s0 s1 s2
      rw [if_neg (fun z => hz z.2)] at w1 w2
      rw [Int32.add_zero] at w1
      unfold WQ
      rw [vc, vp p e, s0, s1, s2, w1, w2]
      refine ⟨a0, a1, OLD_cong a2 (fun i _ => ?_), a3, a4, a5, a6, a7, a8, a9, aO⟩
      by_cases ei : i = o
      · subst ei
        exact ⟨fun z => absurd z (F0 p), fun z => absurd z.2 hz⟩
      · exact F1 p i ei _
theorem WL_polls {q : Nat} (hq : q < 3) : ∀ (r : Nat) {u : CS} {T : Nat}, WL u T → ¬ u (6 + q) 3 = (-1) → WL (lp_pollG q r u) T ∧ (∀ p, p < 3 → lp_pollG q r u (6 + p) 3 = u (6 + p) 3) ∧ ∀ p, p < 3 → lp_pollG q r u (6 + p) 8 = if p = q then u (6 + p) 8 + nI (lp_pollNG q r u) else u (6 + p) 8 := by
  intro r
  induction r with
  | zero =>
    intro u T h _
    refine ⟨h, fun _ _ => rfl, fun p hp => ?_⟩
    rw [lp_pollG, lp_pollNG]
    split
    · exact (Int32.add_zero _).symm
    · rfl
  | succ r ih =>
    intro u T h hin
    rw [lp_pollG, lp_pollNG]
    by_cases c : m_X0_hasFrame_r u (u (6 + q) 6) = 0
    · rw [if_pos c, if_pos c]
      refine ⟨h, fun _ _ => rfl, fun p hp => ?_⟩
      split
      · exact (Int32.add_zero _).symm
      · rfl
    · rw [if_neg c, if_neg c]
      obtain ⟨g1, g2, g3⟩ := WL_take hq h hin c
      obtain ⟨k1, k2, k3⟩ := ih g1 (by rw [g2 q hq]; exact hin)
      refine ⟨k1, fun p hp => (k2 p hp).trans (g2 p hp), fun p hp => ?_⟩
      rw [k3 p hp, g3 p hp]
      by_cases e : p = q
      · rw [if_pos e, if_pos e, if_pos e, Int32.add_assoc, nI_add]
      · rw [if_neg e, if_neg e, if_neg e]
