/-! The row of the reference: which queues stand in it, in their order -/
def RI (f : Nat → Int32) (row : List Nat) : Prop := f 6 = nI row.length ∧ (∀ (i x : Nat), row[i]? = some x → f (7 + i) = nI x) ∧ row.Nodup ∧ ∀ x ∈ row, x < 3
def RF (f : Nat → Int32) : Prop := WF f ∧ ∃ row, RI f row
theorem RI.le {f : Nat → Int32} {row : List Nat} (h : RI f row) : row.length ≤ 3 := by
  obtain ⟨-, -, hn, h3⟩ := h
  match row, hn, h3 with
  | [], _, _ => simp
  | [a], _, _ => simp
  | [a, b], _, _ => simp
  | [a, b, c], _, _ => simp
  | a :: b :: c :: d :: t, hn, h3 =>
    simp only [List.nodup_cons, List.mem_cons, not_or] at hn
    have ha := h3 a (by simp)
    have hb := h3 b (by simp)
    have hc := h3 c (by simp)
    have hd := h3 d (by simp)
    omega
theorem RI.tn6 {f : Nat → Int32} {row : List Nat} (h : RI f row) : tn (f 6) = row.length := tn_of h.1 (by have := h.le; omega)
theorem RI_ag {f g : Nat → Int32} {row : List Nat} (h : RI f row) (a : AG f g) : RI g row := by
  have hl := h.le
  refine ⟨(a 6 (by decide)).trans h.1, fun i x hx => ?_, h.2.2⟩
  have hi : i < row.length := (List.getElem?_eq_some_iff.mp hx).1
  exact (a (7 + i) (by omega)).trans (h.2.1 i x hx)
theorem pl_in {f : Nat → Int32} {row : List Nat} {q : Nat} (h : RI f row) : ∀ (r i : Nat), i + r = row.length → (∃ j, i ≤ j ∧ row[j]? = some q) → ∃ j, row[j]? = some q ∧ lp_pl f q r i = nI j := by
  intro r
  induction r with
  | zero =>
    rintro i hi ⟨j, hj, hq⟩
    have := (List.getElem?_eq_some_iff.mp hq).1
    omega
  | succ r ih =>
    rintro i hi ⟨j, hj, hq⟩
    have hil : i < row.length := by omega
    have hx := List.getElem?_eq_getElem hil
    have h7 := h.2.1 i _ hx
    have hq3 := h.2.2.2 q (List.mem_of_getElem? hq)
    have hx3 := h.2.2.2 _ (List.mem_of_getElem? hx)
    rw [lp_pl]
    by_cases e : f (7 + i) = nI q
    · rw [if_pos e]
      rw [h7] at e
      have e2 := (nI_eq (by omega) (by omega)).mp e
      exact ⟨i, by rw [hx, e2], rfl⟩
    · rw [if_neg e]
      refine ih (i + 1) (by omega) ⟨j, ?_, hq⟩
      rcases Nat.lt_or_ge i j with g | g
      · exact g
      · have : i = j := by omega
        subst this
        exact absurd (h.2.1 i q hq) e
theorem pl_out {f : Nat → Int32} {row : List Nat} {q : Nat} (h : RI f row) (hq : q < 3) (hn : q ∉ row) : ∀ (r i : Nat), i + r = row.length → lp_pl f q r i = (-6) := by
  intro r
  induction r with
  | zero => intro i _; rfl
  | succ r ih =>
    intro i hi
    have hil : i < row.length := by omega
    have hx := List.getElem?_eq_getElem hil
    have h7 := h.2.1 i _ hx
    have hx3 := h.2.2.2 _ (List.mem_of_getElem? hx)
    rw [lp_pl, if_neg]
    · exact ih (i + 1) (by omega)
    · rw [h7]
      intro e
      have e2 := (nI_eq (by omega) (by omega)).mp e
      exact hn (e2 ▸ List.mem_of_getElem? hx)
theorem place_in {f : Nat → Int32} {row : List Nat} {q : Nat} (h : RI f row) (hq : q ∈ row) : ∃ j, row[j]? = some q ∧ m_X5_placeInRow_r f q = nI j := by
  obtain ⟨j, hj⟩ := List.mem_iff_getElem?.mp hq
  exact pl_in h (tn (f 6)) 0 (by rw [h.tn6]; omega) ⟨j, by omega, hj⟩
theorem place_out {f : Nat → Int32} {row : List Nat} {q : Nat} (h : RI f row) (hq : q < 3) (hn : q ∉ row) : m_X5_placeInRow_r f q = (-6) := pl_out h hq hn (tn (f 6)) 0 (by rw [h.tn6]; omega)
theorem reason_out {f : Nat → Int32} {row : List Nat} {q : Nat} (h : RI f row) (hr : m_X5_reason_r f q = 0) : q ∉ row := by
  intro hq
  obtain ⟨j, hj, e⟩ := place_in h hq
  have hl := h.le
  have hjl := (List.getElem?_eq_some_iff.mp hj).1
  unfold m_X5_reason_r at hr
  rw [if_neg (by rw [e]; exact k_neg (by omega) (by decide))] at hr
  exact absurd hr (by decide)
theorem len_lt {f : Nat → Int32} {row : List Nat} {q : Nat} (h : RI f row) (hq : q < 3) (hn : q ∉ row) : row.length < 3 := by
  have h2 : RI (fun j => if j = 6 then nI (row ++ [q]).length else if j = 7 + row.length then nI q else f j) (row ++ [q]) := by
    refine ⟨by simp, fun i x hx => ?_, ?_, ?_⟩
    · show (if 7 + i = 6 then _ else if 7 + i = 7 + row.length then nI q else f (7 + i)) = nI x
      rw [if_neg (by omega)]
      rcases Nat.lt_trichotomy i row.length with g | g | g
      · rw [if_neg (by omega)]
        rw [List.getElem?_append_left g] at hx
        exact h.2.1 i x hx
      · subst g
        simp at hx
        rw [if_pos rfl, hx]
      · have := (List.getElem?_eq_some_iff.mp hx).1
        simp at this
        omega
    · rw [List.nodup_append]
      exact ⟨h.2.2.1, by simp, fun a ha b hb e => by simp at hb; subst hb; subst e; exact hn ha⟩
    · intro x hx
      rcases List.mem_append.mp hx with g | g
      · exact h.2.2.2 x g
      · simp at g; omega
  have := h2.le
  simp at this
  omega
theorem RI_call {f : Nat → Int32} {row : List Nat} {q : Nat} (h : RI f row) (hq : q < 3) (hn : q ∉ row) : RI (m_X5_doCall_f f q) (row ++ [q]) := by
  have hl := len_lt h hq hn
  have e6 := h.tn6
  rw [m_X5_doCall_f, e6]
  refine RI_ag (f := upd (upd f (7 + row.length) (nI q)) 6 (nI (row.length + 1))) ?_ (AG_lays (AG_more (AG.rf _)))
  refine ⟨by rw [pk_us]; simp, fun i x hx => ?_, ?_, ?_⟩
  · have hil := (List.getElem?_eq_some_iff.mp hx).1
    simp at hil
    rw [pk_un (by omega)]
    rcases Nat.lt_or_ge i row.length with g | g
    · rw [pk_un (by omega)]
      rw [List.getElem?_append_left g] at hx
      exact h.2.1 i x hx
    · have : i = row.length := by omega
      subst this
      simp at hx
      rw [pk_us, hx]
  · rw [List.nodup_append]
    exact ⟨h.2.2.1, by simp, fun a ha b hb e => by simp at hb; subst hb; subst e; exact hn ha⟩
  · intro x hx
    rcases List.mem_append.mp hx with g | g
    · exact h.2.2.2 x g
    · simp at g; omega
theorem RF_call {f : Nat → Int32} {q : Nat} (h : RF f) (hq : q < 3) (hr : m_X5_reason_r f q = 0) : RF (m_X5_doCall_f f q) := by
  obtain ⟨hw, row, hi⟩ := h
  have hn := reason_out hi hr
  exact ⟨WF_doCall hw hq (by rw [hi.tn6]; exact len_lt hi hq hn), row ++ [q], RI_call hi hq hn⟩
theorem shift_at : ∀ (r k : Nat) (f : Nat → Int32) (j : Nat), 1 ≤ k → lp_shift r k f j = if 7 + k - 1 ≤ j ∧ j < 7 + k - 1 + r then f (j + 1) else f j := by
  intro r
  induction r with
  | zero => intro k f j hk; rw [lp_shift, if_neg (by omega)]
  | succ r ih =>
    intro k f j hk
    rw [lp_shift, ih (k + 1) _ j (by omega)]
    by_cases h1 : 7 + (k + 1) - 1 ≤ j ∧ j < 7 + (k + 1) - 1 + r
    · rw [if_pos h1, if_pos (by omega), pk_un (by omega)]
    · rw [if_neg h1]
      by_cases h2 : j = 7 + k - 1
      · rw [if_pos (by omega), h2, pk_us]
        congr 1
        omega
      · rw [if_neg (by omega), pk_un h2]
theorem polls_at {f : Nat → Int32} {q : Nat} {rest : List Nat} (h : RI f (q :: rest)) (r : Nat) : ∀ j, j < 10 → lp_shift (rest.length + 1 - 1) 1 (lp_polls q r f) j = if 7 ≤ j ∧ j < 7 + rest.length then f (j + 1) else f j := by
  intro j hj
  have ag := AG_polls q r f
  have hl := h.le
  simp only [List.length_cons] at hl
  rw [shift_at _ _ _ _ (Nat.le_refl 1)]
  by_cases g : 7 ≤ j ∧ j < 7 + rest.length
  · rw [if_pos (by omega), if_pos g]; exact ag (j + 1) (by omega)
  · rw [if_neg (by omega), if_neg g]; exact ag j hj
theorem polls_row {f : Nat → Int32} {q : Nat} {rest : List Nat} (h : RI f (q :: rest)) : RI (m_X5_polls_f f) (if f 1 ≤ nI (0 + lp_pollsN q (tn (f 1)) f) then rest ++ [q] else rest) := by
  have hl := h.le
  simp only [List.length_cons] at hl
  have e6 := h.tn6
  have h7 : f 7 = nI q := h.2.1 0 q rfl
  have hq : q < 3 := h.2.2.2 q (by simp)
  have e7 : tn (f 7) = q := tn_of h7 (by omega)
  have hat := polls_at h (tn (f 1))
  have hnd := h.2.2.1
  rw [List.nodup_cons] at hnd
  have hrow : ∀ (i x : Nat), rest[i]? = some x → lp_shift (rest.length + 1 - 1) 1 (lp_polls q (tn (f 1)) f) (7 + i) = nI x := by
    intro i x hx
    have hil := (List.getElem?_eq_some_iff.mp hx).1
    rw [hat (7 + i) (by omega), if_pos (by omega)]
    exact h.2.1 (i + 1) x (by simpa using hx)
  simp only [List.length_cons] at e6
  rw [m_X5_polls_f, e6, e7, m_pollsrest_f2]
  have e1 : lp_shift (rest.length + 1 - 1) 1 (lp_polls q (tn (f 1)) f) 1 = f 1 := by rw [hat 1 (by decide), if_neg (by omega)]
  rw [e1]
  split
  · refine ⟨?_, fun i x hx => ?_, ?_, ?_⟩
    · rw [pk_un (by omega), hat 6 (by decide), if_neg (by omega), h.1]; simp
    · have hil := (List.getElem?_eq_some_iff.mp hx).1
      simp at hil
      rcases Nat.lt_or_ge i rest.length with g | g
      · rw [pk_un (by omega)]
        rw [List.getElem?_append_left g] at hx
        exact hrow i x hx
      · have : i = rest.length := by omega
        subst this
        simp at hx
        have e : 7 + (rest.length + 1) - 1 = 7 + rest.length := by omega
        rw [e, pk_us, hx]
    · rw [List.nodup_append]
      exact ⟨hnd.2, by simp, fun a ha b hb e => by simp at hb; subst hb; subst e; exact hnd.1 ha⟩
    · intro x hx
      rcases List.mem_append.mp hx with g | g
      · exact h.2.2.2 x (by simp [g])
      · simp at g; omega
  · refine RI_ag (f := upd (upd (lp_shift (rest.length + 1 - 1) 1 (lp_polls q (tn (f 1)) f)) 6 (nI (rest.length + 1 - 1))) (7 + (rest.length + 1 - 1)) (nI 0)) ?_ AG_leaves
    refine ⟨?_, fun i x hx => ?_, hnd.2, fun x hx => h.2.2.2 x (by simp [hx])⟩
    · rw [pk_un (by omega), pk_us]; simp
    · have hil := (List.getElem?_eq_some_iff.mp hx).1
      rw [pk_un (by omega), pk_un (by omega)]
      exact hrow i x hx
theorem RF_polls {f : Nat → Int32} (h : RF f) (hL : 0 < tn (f 6)) : RF (m_X5_polls_f f) := by
  obtain ⟨hw, row, hi⟩ := h
  match row, hi with
  | [], hi => rw [hi.tn6] at hL; simp at hL
  | q :: rest, hi =>
    refine ⟨?_, _, polls_row hi⟩
    have hr := polls_row hi
    have hrl := hr.le
    have hl := hi.le
    simp only [List.length_cons] at hl
    have e6 := hi.tn6
    simp only [List.length_cons] at e6
    have h7 : f 7 = nI q := hi.2.1 0 q rfl
    have hq : q < 3 := hi.2.2.2 q (by simp)
    have e7 : tn (f 7) = q := tn_of h7 (by omega)
    have hat := polls_at hi (tn (f 1))
    obtain ⟨w5, w6, w1, w7⟩ := hw
    have hslot : ∀ j, j < 3 → ∃ x, x < 3 ∧ lp_shift (rest.length + 1 - 1) 1 (lp_polls q (tn (f 1)) f) (7 + j) = nI x := by
      intro j hj
      rw [hat (7 + j) (by omega)]
      split
      · refine ⟨tn (f (7 + j + 1)), ?_, ?_⟩
        · exact (w7 (j + 1) (by omega)).2
        · exact (w7 (j + 1) (by omega)).1
      · exact ⟨tn (f (7 + j)), (w7 j hj).2, (w7 j hj).1⟩
    have e1 : lp_shift (rest.length + 1 - 1) 1 (lp_polls q (tn (f 1)) f) 1 = f 1 := by rw [hat 1 (by decide), if_neg (by omega)]
    have e5 : lp_shift (rest.length + 1 - 1) 1 (lp_polls q (tn (f 1)) f) 5 = f 5 := by rw [hat 5 (by decide), if_neg (by omega)]
    have e66 : lp_shift (rest.length + 1 - 1) 1 (lp_polls q (tn (f 1)) f) 6 = f 6 := by rw [hat 6 (by decide), if_neg (by omega)]
    have key : ∀ (g : Nat → Int32) (i x : Nat), (∀ j, j < 3 → ∃ y, y < 3 ∧ g (7 + j) = nI y) → x < 3 → ∀ j, j < 3 → upd g i (nI x) (7 + j) = nI (tn (upd g i (nI x) (7 + j))) ∧ tn (upd g i (nI x) (7 + j)) < 3 := by
      intro g i x hg hx j hj
      by_cases e : 7 + j = i
      · subst e; rw [pk_us, tn_of rfl (by omega)]; exact ⟨rfl, hx⟩
      · rw [pk_un e]
        obtain ⟨y, hy, e2⟩ := hg j hj
        rw [e2, tn_of rfl (by omega)]; exact ⟨rfl, hy⟩
    rw [m_X5_polls_f, e6, e7, m_pollsrest_f2, e1]
    split
    · unfold WF
      rw [pk_un (by omega), pk_un (by omega), pk_un (by omega), e1, e5, e66]
      exact ⟨w5, w6, w1, key _ _ _ hslot hq⟩
    · refine WF_ag (f := upd (upd (lp_shift (rest.length + 1 - 1) 1 (lp_polls q (tn (f 1)) f)) 6 (nI (rest.length + 1 - 1))) (7 + (rest.length + 1 - 1)) (nI 0)) ?_ AG_leaves
      unfold WF
      have u6 : upd (upd (lp_shift (rest.length + 1 - 1) 1 (lp_polls q (tn (f 1)) f)) 6 (nI (rest.length + 1 - 1))) (7 + (rest.length + 1 - 1)) (nI 0) 6 = nI (rest.length + 1 - 1) := (pk_un (by omega)).trans pk_us
      have u5 : upd (upd (lp_shift (rest.length + 1 - 1) 1 (lp_polls q (tn (f 1)) f)) 6 (nI (rest.length + 1 - 1))) (7 + (rest.length + 1 - 1)) (nI 0) 5 = f 5 := (pk_un (by omega)).trans ((pk_un (by omega)).trans e5)
      have u1 : upd (upd (lp_shift (rest.length + 1 - 1) 1 (lp_polls q (tn (f 1)) f)) 6 (nI (rest.length + 1 - 1))) (7 + (rest.length + 1 - 1)) (nI 0) 1 = f 1 := (pk_un (by omega)).trans ((pk_un (by omega)).trans e1)
      rw [u6, u5, u1, tn_of rfl (by omega)]
      refine ⟨w5, ⟨rfl, by omega⟩, w1, key _ _ _ (fun j hj => ?_) (by decide)⟩
      rw [pk_un (by omega)]
      exact hslot j hj
