theorem RF_ag {f g : Nat → Int32} (h : RF f) (a : AG f g) : RF g := by
  obtain ⟨hw, row, hi⟩ := h
  exact ⟨WF_ag hw a, row, RI_ag hi a⟩
theorem RF_doCome {f : Nat → Int32} {fl : Nat} (h : RF f) (hca : tn (f 5) < 400) : RF (m_X5_doCome_f f fl) := by
  obtain ⟨hw, row, hi⟩ := h
  refine ⟨WF_doCome hw hca, row, ?_⟩
  have hl := hi.le
  have key : ∀ (g : Nat → Int32) (x : Int32), AG f g → RI (upd g 5 x) row := by
    intro g x a
    refine ⟨(pk_un (by decide)).trans ((a 6 (by decide)).trans hi.1), fun i y hy => ?_, hi.2.2⟩
    have := (List.getElem?_eq_some_iff.mp hy).1
    exact (pk_un (by omega)).trans ((a (7 + i) (by omega)).trans (hi.2.1 i y hy))
  rw [m_X5_doCome_f]
  split
  · exact RI_ag (key _ _ (AG_u (AG_u (AG_u (AG_u (AG.rf f) (by omega)) (by omega)) (by omega)) (by omega))) (AG_more (AG.rf _))
  · exact RI_ag (key _ _ (AG_u (AG_u (AG_u (AG_u (AG.rf f) (by omega)) (by omega)) (by omega)) (by omega))) (AG_more (AG.rf _))
theorem doCome_5 {f : Nat → Int32} {fl : Nat} : m_X5_doCome_f f fl 5 = nI (tn (f 5) + 1) := by
  rw [m_X5_doCome_f]
  split
  · exact (AG_more (AG.rf _) 5 (by decide)).trans pk_us
  · exact (AG_more (AG.rf _) 5 (by decide)).trans pk_us
/-- the settings and how many came -/
def AS (f g : Nat → Int32) : Prop := ∀ j, j < 4 ∨ j = 5 → g j = f j
theorem AS.rf (f : Nat → Int32) : AS f f := fun _ _ => rfl
theorem AS.tr {f g h : Nat → Int32} (a : AS f g) (b : AS g h) : AS f h := fun j hj => (b j hj).trans (a j hj)
theorem AS_ag {f g h : Nat → Int32} (a : AS f g) (b : AG g h) : AS f h := fun j hj => (b j (by omega)).trans (a j hj)
theorem AS_4 {f g : Nat → Int32} {x : Int32} (a : AS f g) : AS f (upd g 4 x) := fun j hj => (pk_un (by omega)).trans (a j hj)
theorem AS_call {f g : Nat → Int32} {q : Nat} (a : AS f g) : AS f (m_X5_doCall_f g q) := by
  intro j hj
  rw [m_X5_doCall_f]
  exact (AG_lays (AG_more (AG.rf _)) j (by omega)).trans ((pk_un (by omega)).trans ((pk_un (by omega)).trans (a j hj)))
theorem AS_polls {f g : Nat → Int32} (a : AS f g) : AS f (m_X5_polls_f g) := by
  intro j hj
  have e : lp_shift (tn (g 6) - 1) 1 (lp_polls (tn (g 7)) (tn (g 1)) g) j = g j := by
    rw [shift_at _ _ _ _ (Nat.le_refl 1), if_neg (by omega)]
    exact AG_polls _ _ g j (by omega)
  rw [m_X5_polls_f, m_pollsrest_f2]
  split
  · exact (pk_un (by omega)).trans (e.trans (a j hj))
  · exact (AG_leaves j (by omega)).trans ((pk_un (by omega)).trans ((pk_un (by omega)).trans (e.trans (a j hj))))
theorem AS_tick {f : Nat → Int32} : AS f (m_X5_tick_f f) := by
  rw [m_X5_tick_f]
  by_cases hc_0 : tn (f 6) ≤ 0
  · rw [if_pos hc_0]
    by_cases hc_1 : (m_X5_reason_r f 0) = 0
    · rw [if_pos hc_1]
      by_cases hc_2 : (m_X5_reason_r (m_X5_doCall_f f 0) 1) = 0
      · rw [if_pos hc_2]
        by_cases hc_3 : (m_X5_reason_r (m_X5_doCall_f (m_X5_doCall_f f 0) 1) 2) = 0
        · rw [if_pos hc_3]
          exact (AS_4 (AS_call (AS_call (AS_call (AS.rf f)))))
        · rw [if_neg hc_3]
          exact (AS_4 (AS_call (AS_call (AS.rf f))))
      · rw [if_neg hc_2]
        by_cases hc_3 : (m_X5_reason_r (m_X5_doCall_f f 0) 2) = 0
        · rw [if_pos hc_3]
          exact (AS_4 (AS_call (AS_call (AS.rf f))))
        · rw [if_neg hc_3]
          exact (AS_4 (AS_call (AS.rf f)))
    · rw [if_neg hc_1]
      by_cases hc_2 : (m_X5_reason_r f 1) = 0
      · rw [if_pos hc_2]
        by_cases hc_3 : (m_X5_reason_r (m_X5_doCall_f f 1) 2) = 0
        · rw [if_pos hc_3]
          exact (AS_4 (AS_call (AS_call (AS.rf f))))
        · rw [if_neg hc_3]
          exact (AS_4 (AS_call (AS.rf f)))
      · rw [if_neg hc_2]
        by_cases hc_3 : (m_X5_reason_r f 2) = 0
        · rw [if_pos hc_3]
          exact (AS_4 (AS_call (AS.rf f)))
        · rw [if_neg hc_3]
          exact (AS_4 (AS.rf f))
  · rw [if_neg hc_0]
    by_cases hc_1 : (m_X5_reason_r (m_X5_polls_f f) 0) = 0
    · rw [if_pos hc_1]
      by_cases hc_2 : (m_X5_reason_r (m_X5_doCall_f (m_X5_polls_f f) 0) 1) = 0
      · rw [if_pos hc_2]
        by_cases hc_3 : (m_X5_reason_r (m_X5_doCall_f (m_X5_doCall_f (m_X5_polls_f f) 0) 1) 2) = 0
        · rw [if_pos hc_3]
          exact (AS_4 (AS_call (AS_call (AS_call (AS_polls (AS.rf f))))))
        · rw [if_neg hc_3]
          exact (AS_4 (AS_call (AS_call (AS_polls (AS.rf f)))))
      · rw [if_neg hc_2]
        by_cases hc_3 : (m_X5_reason_r (m_X5_doCall_f (m_X5_polls_f f) 0) 2) = 0
        · rw [if_pos hc_3]
          exact (AS_4 (AS_call (AS_call (AS_polls (AS.rf f)))))
        · rw [if_neg hc_3]
          exact (AS_4 (AS_call (AS_polls (AS.rf f))))
    · rw [if_neg hc_1]
      by_cases hc_2 : (m_X5_reason_r (m_X5_polls_f f) 1) = 0
      · rw [if_pos hc_2]
        by_cases hc_3 : (m_X5_reason_r (m_X5_doCall_f (m_X5_polls_f f) 1) 2) = 0
        · rw [if_pos hc_3]
          exact (AS_4 (AS_call (AS_call (AS_polls (AS.rf f)))))
        · rw [if_neg hc_3]
          exact (AS_4 (AS_call (AS_polls (AS.rf f))))
      · rw [if_neg hc_2]
        by_cases hc_3 : (m_X5_reason_r (m_X5_polls_f f) 2) = 0
        · rw [if_pos hc_3]
          exact (AS_4 (AS_call (AS_polls (AS.rf f))))
        · rw [if_neg hc_3]
          exact (AS_4 (AS_polls (AS.rf f)))
theorem AS_ticks : ∀ (r : Nat) (f : Nat → Int32), AS f (lp_ticks r f) := by
  intro r
  induction r with
  | zero => intro f; exact AS.rf f
  | succ r ih => intro f; exact AS_tick.tr (ih _)
theorem RF_empties {f : Nat → Int32} (h : RF f) : RF (m_X5_empties_f f) := by
  obtain ⟨⟨w5, w6, w1, w7⟩, -⟩ := h
  have key : ∀ g : Nat → Int32, AG f g → RF (upd (upd (upd g 4 (nI 0)) 5 (nI 0)) 6 (nI 0)) := by
    intro g a
    have e1 : upd (upd (upd g 4 (nI 0)) 5 (nI 0)) 6 (nI 0) 1 = f 1 := (pk_un (by decide)).trans ((pk_un (by decide)).trans ((pk_un (by decide)).trans (a 1 (by decide))))
    have e5 : upd (upd (upd g 4 (nI 0)) 5 (nI 0)) 6 (nI 0) 5 = nI 0 := (pk_un (by decide)).trans pk_us
    have e6 : upd (upd (upd g 4 (nI 0)) 5 (nI 0)) 6 (nI 0) 6 = nI 0 := pk_us
    refine ⟨?_, [], e6, fun i x hx => by simp at hx, List.nodup_nil, fun x hx => by simp at hx⟩
    unfold WF
    rw [e1, e5, e6, tn_of rfl (by decide)]
    refine ⟨⟨rfl, by decide⟩, ⟨rfl, by decide⟩, w1, fun j hj => ?_⟩
    have e7 : upd (upd (upd g 4 (nI 0)) 5 (nI 0)) 6 (nI 0) (7 + j) = f (7 + j) := (pk_un (by omega)).trans ((pk_un (by omega)).trans ((pk_un (by omega)).trans (a (7 + j) (by omega))))
    rw [e7]; exact w7 j hj
  rw [m_X5_empties_f]
  refine key _ ?_
  repeat (first | exact AG.rf _ | refine AG_lays ?_)
theorem empties_5 {f : Nat → Int32} : m_X5_empties_f f 5 = nI 0 := by
  rw [m_X5_empties_f]
  exact (pk_un (by decide)).trans pk_us
def lp_tk (fr : Nat) : Nat → (Nat → Int32) → (Nat → Int32)
  | 0, f => f
  | r + 1, f => if m_X5_frameAt_r f fr 2 = 0 then lp_tk fr r (m_X5_tick_f f) else f
def lp_tkN (fr : Nat) : Nat → (Nat → Int32) → Nat
  | 0, _ => 0
  | r + 1, f => if m_X5_frameAt_r f fr 2 = 0 then 1 + lp_tkN fr r (m_X5_tick_f f) else 0
