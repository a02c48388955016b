/-! Two cards that are alike where a frame has come: what they answer and what they become is alike -/
def AL (u v : CS) : Prop := u 0 2 = v 0 2 ∧ u 0 3 = v 0 3 ∧ (∀ j, j < 4 → u 1 j = v 1 j) ∧ (∀ i, i < cn v → u 2 i = v 2 i ∧ u 3 i = v 3 i ∧ u 4 i = v 4 i) ∧ ∀ q, q < 3 → ∀ i, i < 13 → u (6 + q) i = v (6 + q) i
theorem AL.rf (u : CS) : AL u u := ⟨rfl, rfl, fun _ _ => rfl, fun _ _ => ⟨rfl, rfl, rfl⟩, fun _ _ _ _ => rfl⟩
theorem AL.cn {u v : CS} (h : AL u v) : cn u = cn v := by
  show tn (u 0 3) = tn (v 0 3)
  rw [h.2.1]
theorem AL.sy {u v : CS} (h : AL u v) : AL v u := by
  have hc := h.cn
  obtain ⟨h2, h3, h1, hf, hq⟩ := h
  refine ⟨h2.symm, h3.symm, fun j hj => (h1 j hj).symm, fun i hi => ?_, fun q hq3 i hi => (hq q hq3 i hi).symm⟩
  obtain ⟨a, b, c⟩ := hf i (by omega)
  exact ⟨a.symm, b.symm, c.symm⟩
theorem AL.tr {u v w : CS} (h : AL u v) (g : AL v w) : AL u w := by
  have hc := g.cn
  obtain ⟨h2, h3, h1, hf, hq⟩ := h
  obtain ⟨g2, g3, g1, gf, gq⟩ := g
  refine ⟨h2.trans g2, h3.trans g3, fun j hj => (h1 j hj).trans (g1 j hj), fun i hi => ?_, fun q hq3 i hi => (hq q hq3 i hi).trans (gq q hq3 i hi)⟩
  obtain ⟨a, b, c⟩ := hf i (by omega)
  obtain ⟨a', b', c'⟩ := gf i hi
  exact ⟨a.trans a', b.trans b', c.trans c'⟩
theorem has_lt {u : CS} {x : Int32} (h : ¬ m_X0_hasFrame_r u x = 0) : tn x < cn u ∧ x = nI (tn x) := by
  unfold m_X0_hasFrame_r at h
  by_cases c1 : x < 0
  · rw [if_pos c1] at h; exact absurd rfl h
  · rw [if_neg c1] at h
    by_cases c2 : u 0 3 ≤ x
    · rw [if_pos c2] at h; exact absurd rfl h
    · refine ⟨?_, tn_ge c1⟩
      rw [Int32.lt_iff_toInt_lt] at c1
      rw [Int32.le_iff_toInt_le] at c2
      have z : (0 : Int32).toInt = 0 := rfl
      show x.toInt.toNat < (u 0 3).toInt.toNat
      omega
theorem AL_has {u v : CS} (h : AL u v) (x : Int32) : m_X0_hasFrame_r u x = m_X0_hasFrame_r v x := by
  unfold m_X0_hasFrame_r
  rw [h.2.1]
theorem srch_eq {how flow how' flow' : Nat → Int32} {num : Int32} : ∀ (r i : Nat), (∀ k, i ≤ k → k < i + r → how k = how' k ∧ flow k = flow' k) → lp_srch how flow num r i = lp_srch how' flow' num r i := by
  intro r
  induction r with
  | zero => intro i _; rfl
  | succ r ih =>
    intro i h
    obtain ⟨h1, h2⟩ := h i (Nat.le_refl _) (by omega)
    rw [lp_srch, lp_srch, h1, h2, ih (i + 1) (fun k a b => h k (by omega) (by omega))]
theorem AL_q {u v : CS} {q : Nat} {Q Q' : Nat → Int32} (h : AL u v) (hq : q < 3) (hQ : ∀ i, i < 13 → Q i = Q' i) : AL (st2 u (6 + q) Q) (st2 v (6 + q) Q') := by
  obtain ⟨h2, h3, h1, hf, hqq⟩ := h
  have e : ∀ (w : CS) (R : Nat → Int32) (c : Nat), c < 6 → st2 w (6 + q) R c = w c := fun w R c hc => st2_n (by omega)
  refine ⟨by rw [e _ _ 0 (by decide), e _ _ 0 (by decide)]; exact h2, by rw [e _ _ 0 (by decide), e _ _ 0 (by decide)]; exact h3, fun j hj => by rw [e _ _ 1 (by decide), e _ _ 1 (by decide)]; exact h1 j hj, fun i hi => ?_, fun p hp i hi => ?_⟩
  · have hc : cn (st2 v (6 + q) Q') = cn v := by show tn (st2 v (6 + q) Q' 0 3) = _; rw [e _ _ 0 (by decide)]
    rw [hc] at hi
    rw [e _ _ 2 (by decide), e _ _ 2 (by decide), e _ _ 3 (by decide), e _ _ 3 (by decide), e _ _ 4 (by decide), e _ _ 4 (by decide)]
    exact hf i hi
  · by_cases c : p = q
    · subst c; rw [st2_s, st2_s]; exact hQ i hi
    · rw [st2_n (by omega), st2_n (by omega)]; exact hqq p hp i hi
theorem noteW_eq {Q Q' : Nat → Int32} {w : Int32} (h : ∀ i, i < 13 → Q i = Q' i) : ∀ i, i < 13 → noteW Q w i = noteW Q' w i := by
  intro i hi
  simp only [noteW, upd, h 5 (by decide), h 8 (by decide), h 10 (by decide), h 11 (by decide), h 12 (by decide), h i hi]
theorem upd_eq {Q Q' : Nat → Int32} {k : Nat} {x : Int32} {n : Nat} (h : ∀ i, i < n → Q i = Q' i) : ∀ i, i < n → upd Q k x i = upd Q' k x i := by
  intro i hi
  simp only [upd, h i hi]
theorem take_c {q : Nat} {u : CS} {c : Nat} (h4 : c ≠ 4) (h5 : c ≠ 5) (h6 : c ≠ 6 + q) : takeG q u c = u c := by
  unfold takeG
  rw [st2_n h6, st2_n h5, st2_n h4]
theorem take_4 {q : Nat} {u : CS} : takeG q u 4 = upd (u 4) (tn (u (6 + q) 6)) (nI 1) := by
  unfold takeG
  rw [st2_n (by omega), st2_n (by decide), st2_s]
  rfl
theorem take_5 {q : Nat} {u : CS} : takeG q u 5 = upd (u 5) (tn (u (6 + q) 6)) (u 0 2) := by
  unfold takeG
  rw [st2_n (by omega), st2_s]
  rfl
theorem take_q {q : Nat} {u : CS} : takeG q u (6 + q) = upd (noteW (u (6 + q)) (u 0 2 - u 3 (tn (u (6 + q) 6)))) 6 (lp_srch (upd (u 4) (tn (u (6 + q) 6)) (nI 1)) (u 2) (nI q) (cn u - (tn (u (6 + q) 6) + 1)) (tn (u (6 + q) 6) + 1)) := by
  unfold takeG
  rw [st2_s, m_X0_takeOldest_q, note_eq]
theorem take_cn {q : Nat} {u : CS} : cn (takeG q u) = cn u := by
  show tn (takeG q u 0 3) = tn (u 0 3)
  rw [take_c (by decide) (by decide) (by omega)]
theorem AL_take {u v : CS} {q : Nat} (h : AL u v) (hq : q < 3) (ho : ¬ m_X0_hasFrame_r v (v (6 + q) 6) = 0) : AL (takeG q u) (takeG q v) := by
  have hcn := h.cn
  have hlt := (has_lt ho).1
  obtain ⟨h2, h3, h1, hf, hqq⟩ := h
  have e6 : u (6 + q) 6 = v (6 + q) 6 := hqq q hq 6 (by decide)
  obtain ⟨o, eo⟩ : ∃ o, tn (v (6 + q) 6) = o := ⟨_, rfl⟩
  have eu : tn (u (6 + q) 6) = o := by rw [e6, eo]
  rw [eo] at hlt
  have hw : u 0 2 - u 3 o = v 0 2 - v 3 o := by rw [h2, (hf o hlt).2.1]
  have hs : lp_srch (upd (u 4) o (nI 1)) (u 2) (nI q) (cn u - (o + 1)) (o + 1) = lp_srch (upd (v 4) o (nI 1)) (v 2) (nI q) (cn v - (o + 1)) (o + 1) := by
    rw [hcn]
    refine srch_eq _ _ (fun k a b => ?_)
    rw [pk_un (by omega), pk_un (by omega)]
    obtain ⟨x, _, z⟩ := hf k (by omega)
    exact ⟨z, x⟩
  refine ⟨?_, ?_, fun j hj => ?_, fun i hi => ?_, fun p hp i hi => ?_⟩
  · rw [take_c (by decide) (by decide) (by omega), take_c (by decide) (by decide) (by omega)]; exact h2
  · rw [take_c (by decide) (by decide) (by omega), take_c (by decide) (by decide) (by omega)]; exact h3
  · rw [take_c (by decide) (by decide) (by omega), take_c (by decide) (by decide) (by omega)]; exact h1 j hj
  · rw [take_cn] at hi
    obtain ⟨x, y, z⟩ := hf i hi
    rw [take_c (c := 2) (by decide) (by decide) (by omega), take_c (c := 2) (by decide) (by decide) (by omega), take_c (c := 3) (by decide) (by decide) (by omega), take_c (c := 3) (by decide) (by decide) (by omega), take_4, take_4, eo, eu]
    refine ⟨x, y, ?_⟩
    simp only [upd, z]
  · by_cases c : p = q
    · subst c
      rw [take_q, take_q, eo, eu, hw, hs]
      exact upd_eq (noteW_eq (hqq p hp)) i hi
    · rw [take_c (by omega) (by omega) (by omega), take_c (by omega) (by omega) (by omega)]; exact hqq p hp i hi
theorem AL_pollG {q : Nat} (hq : q < 3) : ∀ (r : Nat) {u v : CS}, AL u v → AL (lp_pollG q r u) (lp_pollG q r v) ∧ lp_pollNG q r u = lp_pollNG q r v := by
  intro r
  induction r with
  | zero => intro u v h; exact ⟨h, rfl⟩
  | succ r ih =>
    intro u v h
    rw [lp_pollG, lp_pollG, lp_pollNG, lp_pollNG, AL_has h, h.2.2.2.2 q hq 6 (by decide)]
    by_cases c : m_X0_hasFrame_r v (v (6 + q) 6) = 0
    · rw [if_pos c, if_pos c, if_pos c, if_pos c]; exact ⟨h, rfl⟩
    · rw [if_neg c, if_neg c, if_neg c, if_neg c]
      obtain ⟨g1, g2⟩ := ih (AL_take h hq c)
      exact ⟨g1, by rw [g2]⟩
theorem AL_leave {u v : CS} {q : Nat} (h : AL u v) (hq : q < 3) : AL (leaveG q u) (leaveG q v) := by
  have l := @leave_hd q
  obtain ⟨h2, h3, h1, hf, hqq⟩ := h
  refine ⟨by rw [l 0 (by decide), l 0 (by decide)]; exact h2, by rw [l 0 (by decide), l 0 (by decide)]; exact h3, fun j hj => by rw [l 1 (by decide), l 1 (by decide)]; exact h1 j hj, fun i hi => ?_, fun p hp i hi => ?_⟩
  · have hc : cn (leaveG q v) = cn v := by show tn (leaveG q v 0 3) = _; rw [l 0 (by decide)]
    rw [hc] at hi
    rw [l 2 (by decide), l 2 (by decide), l 3 (by decide), l 3 (by decide), l 4 (by decide), l 4 (by decide)]
    exact hf i hi
  · have e3 := hqq q hq 3 (by decide)
    have p3 := hqq p hp 3 (by decide)
    have pi := hqq p hp i hi
    unfold leaveG
    rw [e3, p3]
    by_cases c : 6 + p = 6 + q
    · rw [if_pos c, if_pos c]; simp only [upd, pi]
    · rw [if_neg c, if_neg c]
      by_cases d : (6 + p = 6 ∨ 6 + p = 7 ∨ 6 + p = 8) ∧ ¬ v (6 + p) 3 ≤ v (6 + q) 3
      · rw [if_pos d, if_pos d]; simp only [upd, pi]
      · rw [if_neg d, if_neg d]; exact pi
theorem AL_rows {u v : CS} (h : AL u v) : u 6 3 = v 6 3 ∧ u 7 3 = v 7 3 ∧ u 8 3 = v 8 3 := ⟨h.2.2.2.2 0 (by decide) 3 (by decide), h.2.2.2.2 1 (by decide) 3 (by decide), h.2.2.2.2 2 (by decide) 3 (by decide)⟩
theorem AL_len {u v : CS} (h : AL u v) : m_X0_rowLength_r u = m_X0_rowLength_r v := by
  obtain ⟨a, b, c⟩ := AL_rows h
  unfold m_X0_rowLength_r m_X3_isCalled_r
  rw [a, b, c]
theorem AL_at {u v : CS} (h : AL u v) (x : Int32) : m_X0_queueAt_r u x = m_X0_queueAt_r v x := by
  obtain ⟨a, b, c⟩ := AL_rows h
  unfold m_X0_queueAt_r m_X3_isCalled_r
  rw [a, b, c]
theorem AL_idle {Q Q' : Nat → Int32} {fo : Int32} (h : ∀ i, i < 13 → Q i = Q' i) : ∀ i, i < 13 → m_X3_becomeIdle_q Q (if fo = nI 1 then nI 1 else nI 0) i = m_X3_becomeIdle_q Q' (if fo = nI 1 then nI 1 else nI 0) i := by
  intro i hi
  rw [idle_eq, idle_eq, h 2 (by decide), h 12 (by decide)]
  exact upd_eq (upd_eq h) i hi
theorem AL_PRG {u v : CS} {q t : Nat} (h : AL u v) (hq : q < 3) : AL (PRG q u t) (PRG q v t) := by
  have hl := AL_leave h hq
  have e1 := hl.2.2.1 1 (by decide)
  have e2 := hl.2.2.1 2 (by decide)
  have eq := hl.2.2.2.2 q hq
  unfold PRG
  rw [e1, e2, AL_len hl]
  split
  · exact AL_q hl hq (upd_eq eq)
  · exact AL_q hl hq (AL_idle eq)
theorem qa_cases (u : CS) (x : Int32) : m_X0_queueAt_r u x = (-1) ∨ ∃ q, q < 3 ∧ m_X0_queueAt_r u x = nI q := by
  unfold m_X0_queueAt_r
  repeat' split
  all_goals first | exact Or.inl rfl | exact Or.inr ⟨0, by decide, rfl⟩ | exact Or.inr ⟨1, by decide, rfl⟩ | exact Or.inr ⟨2, by decide, rfl⟩
theorem poll_no {u : CS} (h : m_X0_queueAt_r u (nI 0) = (-1)) : m_X0_poll_u u = u ∧ m_X0_poll_r u = nI 0 := by
  rw [m_X0_poll_u, m_X0_poll_r, h, if_pos (by decide +kernel), if_pos (by decide +kernel)]
  exact ⟨rfl, rfl⟩
theorem AL_poll {u v : CS} (h : AL u v) : AL (m_X0_poll_u u) (m_X0_poll_u v) ∧ m_X0_poll_r u = m_X0_poll_r v := by
  have ha := AL_at h (nI 0)
  rcases qa_cases v (nI 0) with e | ⟨q, hq, e⟩
  · obtain ⟨a, b⟩ := poll_no e
    obtain ⟨c, d⟩ := poll_no (ha.trans e)
    rw [a, b, c, d]
    exact ⟨h, rfl⟩
  · obtain ⟨a, b⟩ := poll_eq hq e
    obtain ⟨c, d⟩ := poll_eq hq (ha.trans e)
    obtain ⟨g1, g2⟩ := AL_pollG hq (tn (v 1 1)) h
    rw [h.2.2.1 1 (by decide)] at c d
    rw [a, b, c, d, g2]
    exact ⟨AL_PRG g1 hq, rfl⟩
theorem AL_why {u v : CS} {q : Nat} (h : AL u v) (hq : q < 3) : m_X0_whySilent_r u (u (6 + q)) = m_X0_whySilent_r v (v (6 + q)) := by
  have e := h.2.2.2.2 q hq
  unfold m_X0_whySilent_r m_X3_isCalled_r
  rw [e 3 (by decide), e 4 (by decide), e 6 (by decide), e 5 (by decide), e 2 (by decide), e 1 (by decide), AL_has h, h.1]
  by_cases c : m_X0_hasFrame_r v (v (6 + q) 6) = 0
  · simp only [c, if_true]
  · rw [(h.2.2.2.1 _ (has_lt c).1).2.1]
theorem AL_enter {u v : CS} {q : Nat} (h : AL u v) (hq : q < 3) : AL (enterG q u) (enterG q v) := by
  have e := h.2.2.2.2 q hq
  unfold enterG
  rw [AL_len h, e 7 (by decide)]
  exact AL_q h hq (upd_eq (upd_eq (upd_eq e)))
theorem AL_callG {u v : CS} {q : Nat} (h : AL u v) (hq : q < 3) : AL (callG q u) (callG q v) := by
  unfold callG
  rw [AL_why h hq]
  split
  · exact AL_enter h hq
  · exact h
theorem AL_tick1 {u v : CS} (h : AL u v) : AL (tick1 u) (tick1 v) := by
  obtain ⟨h2, h3, h1, hf, hqq⟩ := h
  unfold tick1
  have e : ∀ (w : CS) (R : Nat → Int32) (c : Nat), c ≠ 0 → st2 w 0 R c = w c := fun w R c hc => st2_n hc
  refine ⟨?_, ?_, fun j hj => by rw [e _ _ 1 (by decide), e _ _ 1 (by decide)]; exact h1 j hj, fun i hi => ?_, fun p hp i hi => ?_⟩
  · rw [st2_s, st2_s, pk_us, pk_us, h2]
  · rw [st2_s, st2_s, pk_un (by decide), pk_un (by decide)]; exact h3
  · have hc : cn (st2 v 0 (upd (v 0) 2 (v 0 2 + nI 1))) = cn v := by show tn (st2 v 0 (upd (v 0) 2 (v 0 2 + nI 1)) 0 3) = _; rw [st2_s, pk_un (by decide)]
    rw [hc] at hi
    rw [e _ _ 2 (by decide), e _ _ 2 (by decide), e _ _ 3 (by decide), e _ _ 3 (by decide), e _ _ 4 (by decide), e _ _ 4 (by decide)]
    exact hf i hi
  · rw [e _ _ _ (by omega), e _ _ _ (by omega)]; exact hqq p hp i hi
theorem AL_tick {u v : CS} (h : AL u v) : AL (m_X0_tick_u u) (m_X0_tick_u v) ∧ m_X0_tick_r u = m_X0_tick_r v := by
  obtain ⟨a, b⟩ := AL_poll h
  rw [(tick_G u).1, (tick_G u).2, (tick_G v).1, (tick_G v).2]
  exact ⟨AL_tick1 (AL_callG (AL_callG (AL_callG a (by decide)) (by decide)) (by decide)), b⟩
theorem AL_run : ∀ (n : Nat) {u v : CS}, AL u v → AL (lp_run n u) (lp_run n v) ∧ ∀ t, lp_runR n u t = lp_runR n v t := by
  intro n
  induction n with
  | zero => intro u v h; exact ⟨h, fun _ => rfl⟩
  | succ n ih =>
    intro u v h
    obtain ⟨a, b⟩ := AL_tick h
    obtain ⟨c, d⟩ := ih a
    refine ⟨c, fun t => ?_⟩
    rw [lp_runR, lp_runR, b, d]
/-! the probe, whatever it held -/
theorem AL_copy {p u : CS} (h : CM u) : AL (m_X0_copyFrom_u p u) u := by
  have hc : cn (m_X0_copyFrom_u p u) = cn u := by
    show tn (nI (cn u)) = cn u
    exact tn_of rfl (by have := h.2.1; omega)
  refine ⟨rfl, h.1.symm, fun j hj => cpy0 hj, fun i hi => ⟨cpy0 hi, cpy0 hi, cpy0 hi⟩, fun q hq i hi => ?_⟩
  rcases (by omega : q = 0 ∨ q = 1 ∨ q = 2) with rfl | rfl | rfl
  · exact cpq i hi
  · exact cpq i hi
  · exact cpq i hi
theorem emq {q o : Nat → Int32} {q' : Nat → Int32} : ∀ i, i < 13 → m_X3_emptyLike_q q o i = m_X3_emptyLike_q q' o i := by
  intro i hi
  rcases (by omega : i = 0 ∨ i = 1 ∨ i = 2 ∨ i = 3 ∨ i = 4 ∨ i = 5 ∨ i = 6 ∨ i = 7 ∨ i = 8 ∨ i = 9 ∨ i = 10 ∨ i = 11 ∨ i = 12) with rfl | rfl | rfl | rfl | rfl | rfl | rfl | rfl | rfl | rfl | rfl | rfl | rfl <;> rfl
theorem AL_empty {p p' u : CS} : AL (m_X0_emptyLike_u p u) (m_X0_emptyLike_u p' u) := by
  have hc : cn (m_X0_emptyLike_u p' u) = 0 := by
    show tn (nI 0) = 0
    exact tn_of rfl (by decide)
  refine ⟨rfl, rfl, fun j hj => (cpy0 (f := u 1) (n := 4) hj).trans (cpy0 hj).symm, fun i hi => by rw [hc] at hi; omega, fun q hq i hi => ?_⟩
  rcases (by omega : q = 0 ∨ q = 1 ∨ q = 2) with rfl | rfl | rfl
  · exact emq i hi
  · exact emq i hi
  · exact emq i hi
theorem AL_recvG {u v : CS} {j : Nat} {x s : Int32} {Q Q' : Nat → Int32} (h : AL u v) (hj : j < 3) (hc : cn v < 400) (hQ : ∀ i, i < 13 → Q i = Q' i) : AL (recvG j u x s Q) (recvG j v x s Q') := by
  have hcn := h.cn
  unfold recvG
  refine AL_q ?_ hj hQ
  obtain ⟨h2, h3, h1, hf, hqq⟩ := h
  have e : ∀ w : CS, tn (nI (cn w + 1)) = cn w + 1 ∨ 400 ≤ cn w := fun w => by
    by_cases c : cn w < 400
    · exact Or.inl (tn_of rfl (by omega))
    · exact Or.inr (by omega)
  refine ⟨?_, ?_, fun j hj => ?_, fun i hi => ?_, fun p hp i hi => ?_⟩
  · show u 0 2 = v 0 2
    exact h2
  · show nI (cn u + 1) = nI (cn v + 1)
    rw [hcn]
  · show u 1 j = v 1 j
    exact h1 j hj
  · have hi : i < tn (nI (cn v + 1)) := hi
    rw [tn_of rfl (by omega)] at hi
    show upd (u 2) (cn u) x i = upd (v 2) (cn v) x i ∧ upd (u 3) (cn u) (u 0 2) i = upd (v 3) (cn v) (v 0 2) i ∧ upd (u 4) (cn u) s i = upd (v 4) (cn v) s i
    rw [hcn, h2]
    by_cases c : i = cn v
    · rw [c, pk_us, pk_us, pk_us, pk_us, pk_us, pk_us]; exact ⟨rfl, rfl, rfl⟩
    · rw [pk_un c, pk_un c, pk_un c, pk_un c, pk_un c, pk_un c]; exact hf i (by omega)
  · have z : ∀ (w : CS) (a b c d : Nat → Int32), st2 (st2 (st2 (st2 w 0 a) 2 b) 3 c) 4 d (6 + p) = w (6 + p) := fun w a b c d => by
      rw [st2_n (by omega), st2_n (by omega), st2_n (by omega), st2_n (by omega)]
    rw [z, z]
    exact hqq p hp i hi
theorem AL_recv {u v : CS} {x : Int32} {j : Nat} (h : AL u v) (hj : j < 3) (h0 : ¬ x < 0) (h9 : x ≤ nI 99) (hx : x - x / nI 3 * nI 3 = nI j) : AL (m_X0_receive_u u x) (m_X0_receive_u v x) := by
  have hcn := h.cn
  by_cases hc : cn v < 400
  · have e := h.2.2.2.2 j hj
    rw [(receive_eq hj h0 h9 hc hx).2, (receive_eq (u := u) hj h0 h9 (by omega) hx).2, e 5 (by decide), e 6 (by decide), e 9 (by decide), h.2.2.1 0 (by decide), hcn]
    split
    · split
      · exact AL_recvG h hj hc (upd_eq (upd_eq e))
      · exact AL_recvG h hj hc (upd_eq e)
    · exact AL_recvG h hj hc (upd_eq e)
  · rw [m_X0_receive_u, m_X0_receive_u, if_neg h0, if_neg h0, if_pos h9, if_pos h9, if_neg hc, if_neg (by omega)]
    exact h
theorem cbu {u : CS} {j : Nat} {c w : Int32} (hj : j < 3) : m_X0_changeBounds_u u (nI j) c w = (if c < nI 1 then u else if nI 32 < c then u else if w < nI 1 then u else if w ≤ nI 99 then st2 u (6 + j) (upd (upd (upd (u (6 + j)) 0 c) 1 w) 2 c) else u) ∧ m_X0_changeBounds_r u (nI j) c w = (if c < nI 1 then (-2) else if nI 32 < c then (-2) else if w < nI 1 then (-2) else if w ≤ nI 99 then u (6 + j) 0 else (-2)) := by
  have n10 : ¬ nI 1 = nI 0 := by decide +kernel
  have n20 : ¬ nI 2 = nI 0 := by decide +kernel
  have n21 : ¬ nI 2 = nI 1 := by decide +kernel
  rw [m_X0_changeBounds_u, m_X0_changeBounds_r, if_neg (isq_t hj), if_neg (isq_t hj)]
  rcases (by omega : j = 0 ∨ j = 1 ∨ j = 2) with rfl | rfl | rfl
  · rw [if_pos rfl, if_pos rfl]; exact ⟨rfl, rfl⟩
  · rw [if_neg n10, if_neg n10, if_pos rfl, if_pos rfl]; exact ⟨rfl, rfl⟩
  · rw [if_neg n20, if_neg n20, if_neg n21, if_neg n21]; exact ⟨rfl, rfl⟩
theorem AL_bnd {u v : CS} {j : Nat} {c w : Int32} (h : AL u v) (hj : j < 3) : AL (m_X0_changeBounds_u u (nI j) c w) (m_X0_changeBounds_u v (nI j) c w) := by
  rw [(cbu hj).1, (cbu hj).1]
  split
  · exact h
  · split
    · exact h
    · split
      · exact h
      · split
        · exact AL_q h hj (upd_eq (upd_eq (upd_eq (h.2.2.2.2 j hj))))
        · exact h
theorem AL_tr {j gp : Nat} (hj : j < 3) : ∀ (r : Nat) {u v : CS}, AL u v → AL (lp_tr j gp r u) (lp_tr j gp r v) := by
  have h0 : ¬ nI j < 0 := nI_pos (by omega)
  have h9 : nI j ≤ nI 99 := (nI_leI (by omega) (by decide)).mpr (by omega)
  have hx : nI j - nI j / nI 3 * nI 3 = nI j := by
    rw [pk_rem (by omega) (by decide) (by decide), Nat.mod_eq_of_lt hj]
  intro r
  induction r with
  | zero => intro u v h; exact h
  | succ r ih => intro u v h; exact ih (AL_run gp (AL_recv h hj h0 h9 hx)).1
theorem AL_te {j : Nat} (hj : j < 3) : ∀ (r : Nat) {u v : CS}, AL u v → AL (lp_te j r u) (lp_te j r v) := by
  intro r
  induction r with
  | zero => intro u v h; exact h
  | succ r ih =>
    intro u v h
    rw [lp_te, lp_te, h.2.2.2.2 j hj 5 (by decide)]
    split
    · exact h
    · exact ih (AL_tick h).1
theorem AL_fact {u v : CS} {q : Nat} (h : AL u v) (hq : q < 3) (x : Int32) : m_X3_fact_r (u (6 + q)) x = m_X3_fact_r (v (6 + q)) x := by
  have e := h.2.2.2.2 q hq
  unfold m_X3_fact_r m_X3_isCalled_r
  rw [e 0 (by decide), e 1 (by decide), e 2 (by decide), e 3 (by decide), e 4 (by decide), e 5 (by decide), e 6 (by decide), e 7 (by decide), e 8 (by decide), e 9 (by decide), e 10 (by decide), e 11 (by decide), e 12 (by decide)]
theorem AL_tot {u v : CS} (h : AL u v) (x : Int32) : m_X0_total_r u x = m_X0_total_r v x := by
  have a0 : m_X3_fact_r (u 6) x = m_X3_fact_r (v 6) x := AL_fact h (q := 0) (by decide) x
  have a1 : m_X3_fact_r (u 7) x = m_X3_fact_r (v 7) x := AL_fact h (q := 1) (by decide) x
  have a2 : m_X3_fact_r (u 8) x = m_X3_fact_r (v 8) x := AL_fact h (q := 2) (by decide) x
  unfold m_X0_total_r
  rw [a0, a1, a2]
theorem AL_tc {u p p' : CS} {j gp : Nat} {c : Int32} (hj : j < 3) : m_X4_trialCost_r u p j c gp = m_X4_trialCost_r u p' j c gp := by
  have h : AL (m_X4_trialCost_u u p j c gp) (m_X4_trialCost_u u p' j c gp) := AL_te hj _ (AL_tr hj _ (AL_bnd AL_empty hj))
  unfold m_X4_trialCost_r tc_r
  rw [AL_tot h, AL_tot h, h.2.2.1 3 (by decide)]
theorem AL_bcB {u : CS} {j gp : Nat} (hj : j < 3) : ∀ (r i : Nat) (p p' : CS) (b v : Int32), bc_B u j gp r i p b v = bc_B u j gp r i p' b v := by
  intro r
  induction r with
  | zero => intro i p p' b v; rfl
  | succ r ih =>
    intro i p p' b v
    rw [bc_B, bc_B, AL_tc (p := p) (p' := p') hj, ih (i + 1) (m_X4_trialCost_u u p j (nI i) gp) (m_X4_trialCost_u u p' j (nI i) gp) b v, ih (i + 1) (m_X4_trialCost_u u p j (nI i) gp) (m_X4_trialCost_u u p' j (nI i) gp) (nI i) _]
theorem AL_bcL {u : CS} {j gp : Nat} (hj : j < 3) : ∀ (r i : Nat) (p p' : CS) (v : Int32), bc_L u j gp r i p v = bc_L u j gp r i p' v := by
  intro r
  induction r with
  | zero => intro i p p' v; rfl
  | succ r ih =>
    intro i p p' v
    rw [bc_L, bc_L, AL_tc (p := p) (p' := p') hj, ih (i + 1) (m_X4_trialCost_u u p j (nI i) gp) (m_X4_trialCost_u u p' j (nI i) gp) v, ih (i + 1) (m_X4_trialCost_u u p j (nI i) gp) (m_X4_trialCost_u u p' j (nI i) gp) _]
theorem best_same {u p p' : CS} {j : Nat} {gp w : Int32} (hj : j < 3) : m_X4_bestCount_r u p (nI j) gp w = m_X4_bestCount_r u p' (nI j) gp w := by
  have e : tn (nI j) = j := tn_of rfl (by omega)
  unfold m_X4_bestCount_r bc_r
  rw [e, AL_bcB hj 31 2 (m_X4_trialCost_u u p j (nI 1) (tn gp)) (m_X4_trialCost_u u p' j (nI 1) (tn gp)), AL_bcL hj 31 2 (m_X4_trialCost_u u p j (nI 1) (tn gp)) (m_X4_trialCost_u u p' j (nI 1) (tn gp)), AL_tc (p := p) (p' := p') hj]
theorem would_run {u p : CS} {t : Nat} (hc : CM u) : AL (lp_run t (m_X0_copyFrom_u p u)) (lp_run t u) := (AL_run t (AL_copy hc)).1
theorem wd_same {u p p' : CS} (h : AL p p') (w : Int32) : wd_r u p w = wd_r u p' w := by
  unfold wd_r
  rw [AL_tot h, AL_tot h, AL_tot h, AL_tot h]
theorem would_same {u p p' : CS} {x w : Int32} (hc : CM u) : m_X4_would_r u p x w = m_X4_would_r u p' x w := by
  unfold m_X4_would_r
  rw [wd_same ((would_run (p := p) hc).tr (would_run (p := p') hc).sy)]
theorem pollG_c {q : Nat} {c : Nat} (h4 : c ≠ 4) (h5 : c ≠ 5) (h6 : c ≠ 6 + q) : ∀ (r : Nat) (u : CS), lp_pollG q r u c = u c := by
  intro r
  induction r with
  | zero => intro u; rfl
  | succ r ih =>
    intro u
    rw [lp_pollG]
    split
    · rfl
    · rw [ih, take_c h4 h5 h6]
theorem poll_hd {u : CS} {c : Nat} (hc : c < 4) : m_X0_poll_u u c = u c := by
  rcases poll_c u with h | ⟨q, r, t, -, h⟩
  · rw [h]
  · rw [h, PRG_k (by omega), pollG_c (by omega) (by omega) (by omega)]
theorem tick_0 (u : CS) : m_X0_tick_u u 0 = upd (u 0) 2 (u 0 2 + nI 1) := by
  rw [(tick_G u).1]
  show upd (callG 2 (callG 1 (callG 0 (m_X0_poll_u u))) 0) 2 (callG 2 (callG 1 (callG 0 (m_X0_poll_u u))) 0 2 + nI 1) = _
  rw [callG_k (by decide), callG_k (by decide), callG_k (by decide), poll_hd (by decide)]
theorem tick_cn (u : CS) : cn (m_X0_tick_u u) = cn u := by
  show tn (m_X0_tick_u u 0 3) = tn (u 0 3)
  rw [tick_0, pk_un (by decide)]
theorem tk_same {j : Nat} : ∀ (r i : Nat) {u v : CS}, AL u v → j < cn v → lp_tk j r i u = lp_tk j r i v := by
  intro r
  induction r with
  | zero => intro i u v _ _; rfl
  | succ r ih =>
    intro i u v h hj
    obtain ⟨a, -⟩ := AL_tick h
    have hc := tick_cn v
    rw [lp_tk, lp_tk, (a.2.2.2.1 j (by omega)).2.2, ih (i + 1) a (by omega)]
theorem taken_same {u p p' : CS} {x : Int32} (hc : CM u) : m_X4_takenIn_r u p x = m_X4_takenIn_r u p' x := by
  unfold m_X4_takenIn_r
  by_cases c : m_X0_hasFrame_r u x = 0
  · rw [if_pos c, if_pos c]
  · rw [if_neg c, if_neg c]
    have hlt := (has_lt c).1
    have h := (AL_copy (p := p) hc).tr (AL_copy (p := p') hc).sy
    have e : cn (m_X0_copyFrom_u p' u) = cn u := (AL_copy hc).cn
    rw [tk_same 500 1 h (by omega)]
