/-! The class by itself: one frame taken, the row, a poll, a tick, a frame that comes, each for any queue -/
theorem st2_s {u : CS} {c : Nat} {f : Nat → Int32} : st2 u c f c = f := if_pos rfl
theorem st2_n {u : CS} {c c' : Nat} {f : Nat → Int32} (h : c' ≠ c) : st2 u c f c' = u c' := if_neg h
def SR (u : CS) (row : List Nat) : Prop := ∀ q, q < 3 → (q ∉ row ∧ u (6 + q) 3 = (-1)) ∨ (∃ i, row[i]? = some q ∧ u (6 + q) 3 = nI i)
def takeG (q : Nat) (u : CS) : CS := st2 (st2 (st2 u 4 (m_X0_takeOldest_u4 u (u (6 + q)))) 5 (m_X0_takeOldest_u5 u (u (6 + q)))) (6 + q) (m_X0_takeOldest_q u (u (6 + q)) (nI q))
theorem max_eq {x y : Int32} : (if x < y then y else x) = (if y ≤ x then x else y) := by
  by_cases h : x < y
  · rw [if_pos h, if_neg (Int32.not_le.mpr h)]
  · rw [if_neg h, if_pos (Int32.not_lt.mp h)]
def noteW (q : Nat → Int32) (t : Int32) : Nat → Int32 := upd (upd (upd (upd (upd q 5 (q 5 - nI 1)) 8 (q 8 + nI 1)) 12 (q 12 + nI 1)) 10 (q 10 + t)) 11 (if q 11 < t then t else q 11)
theorem note_eq (q : Nat → Int32) (t : Int32) : m_X3_noteTaken_q q t = noteW q t := by
  unfold m_X3_noteTaken_q noteW
  rw [max_eq]
  by_cases h : t ≤ q 11
  · rw [if_pos h, if_pos h]
  · rw [if_neg h, if_neg h]
theorem call_in {u : CS} {row : List Nat} {q : Nat} (h : SR u row) (hl : row.length ≤ 3) (hq : q < 3) : m_X3_isCalled_r (u (6 + q)) = 0 ↔ q ∉ row := by
  unfold m_X3_isCalled_r
  rcases h q hq with ⟨h1, h2⟩ | ⟨i, h1, h2⟩
  · rw [if_pos h2]
    exact ⟨fun _ => h1, fun _ => rfl⟩
  · have hi := (List.getElem?_eq_some_iff.mp h1).1
    rw [if_neg (by rw [h2]; exact k_neg (by omega) (by decide))]
    exact ⟨fun e => absurd e (by decide), fun e => absurd (List.mem_of_getElem? h1) e⟩
theorem row_le {row : List Nat} (hn : row.Nodup) (h3 : ∀ x ∈ row, x < 3) : row.length ≤ 3 := by
  match row, hn, h3 with
  | [], _, _ => simp
  | [a], _, _ => simp
  | [a, b], _, _ => simp
  | [a, b, c], _, _ => simp
  | a :: b :: c :: d :: t, hn, h3 =>
    simp only [List.nodup_cons, List.mem_cons, not_or] at hn
    have ha := h3 a (by simp)
    have hb := h3 b (by simp)
    have hc := h3 c (by simp)
    have hd := h3 d (by simp)
    omega
theorem row_len {row : List Nat} (hn : row.Nodup) (h3 : ∀ x ∈ row, x < 3) : row.length = (if 0 ∈ row then 1 else 0) + (if 1 ∈ row then 1 else 0) + (if 2 ∈ row then 1 else 0) := by
  have hl := row_le hn h3
  match row, hn, h3, hl with
  | [], _, _, _ => rfl
  | [a], _, h3, _ =>
    have ha := h3 a (by simp)
    rcases (by omega : a = 0 ∨ a = 1 ∨ a = 2) with rfl | rfl | rfl <;> decide
  | [a, b], hn, h3, _ =>
    have ha := h3 a (by simp)
    have hb := h3 b (by simp)
    rcases (by omega : a = 0 ∨ a = 1 ∨ a = 2) with rfl | rfl | rfl <;> rcases (by omega : b = 0 ∨ b = 1 ∨ b = 2) with rfl | rfl | rfl <;> first | decide | exact absurd hn (by decide)
  | [a, b, c], hn, h3, _ =>
    have ha := h3 a (by simp)
    have hb := h3 b (by simp)
    have hc := h3 c (by simp)
    rcases (by omega : a = 0 ∨ a = 1 ∨ a = 2) with rfl | rfl | rfl <;> rcases (by omega : b = 0 ∨ b = 1 ∨ b = 2) with rfl | rfl | rfl <;> rcases (by omega : c = 0 ∨ c = 1 ∨ c = 2) with rfl | rfl | rfl <;> first | decide | exact absurd hn (by decide)
  | a :: b :: c :: d :: t, _, _, hl => simp only [List.length_cons] at hl; omega
theorem rowLength_eq {u : CS} {row : List Nat} (h : SR u row) (hn : row.Nodup) (h3 : ∀ x ∈ row, x < 3) : m_X0_rowLength_r u = nI row.length := by
  have hl := row_le hn h3
  have c0 : m_X3_isCalled_r (u 6) = 0 ↔ 0 ∉ row := call_in (q := 0) h hl (by decide)
  have c1 : m_X3_isCalled_r (u 7) = 0 ↔ 1 ∉ row := call_in (q := 1) h hl (by decide)
  have c2 : m_X3_isCalled_r (u 8) = 0 ↔ 2 ∉ row := call_in (q := 2) h hl (by decide)
  rw [m_X0_rowLength_r, row_len hn h3]
  by_cases m0 : 0 ∈ row
  · rw [if_neg (fun e => (c0.mp e) m0), if_pos m0]
    by_cases m1 : 1 ∈ row
    · rw [if_neg (fun e => (c1.mp e) m1), if_pos m1]
      by_cases m2 : 2 ∈ row
      · rw [if_neg (fun e => (c2.mp e) m2), if_pos m2]
      · rw [if_pos (c2.mpr m2), if_neg m2]
    · rw [if_pos (c1.mpr m1), if_neg m1]
      by_cases m2 : 2 ∈ row
      · rw [if_neg (fun e => (c2.mp e) m2), if_pos m2]
      · rw [if_pos (c2.mpr m2), if_neg m2]
  · rw [if_pos (c0.mpr m0), if_neg m0]
    by_cases m1 : 1 ∈ row
    · rw [if_neg (fun e => (c1.mp e) m1), if_pos m1]
      by_cases m2 : 2 ∈ row
      · rw [if_neg (fun e => (c2.mp e) m2), if_pos m2]
      · rw [if_pos (c2.mpr m2), if_neg m2]
    · rw [if_pos (c1.mpr m1), if_neg m1]
      by_cases m2 : 2 ∈ row
      · rw [if_neg (fun e => (c2.mp e) m2), if_pos m2]
      · rw [if_pos (c2.mpr m2), if_neg m2]
theorem at_k {u : CS} {row : List Nat} {q i : Nat} (h : SR u row) (hn : row.Nodup) (hl : row.length ≤ 3) (hq : q < 3) (hi : i < 2 ^ 31) : (m_X3_isCalled_r (u (6 + q)) = 0 ∧ ¬ row[i]? = some q) ∨ (¬ m_X3_isCalled_r (u (6 + q)) = 0 ∧ (u (6 + q) 3 = nI i ↔ row[i]? = some q)) := by
  have c := call_in h hl hq
  rcases h q hq with ⟨h1, h2⟩ | ⟨j, h1, h2⟩
  · exact Or.inl ⟨c.mpr h1, fun e => h1 (List.mem_of_getElem? e)⟩
  · have hj := (List.getElem?_eq_some_iff.mp h1).1
    refine Or.inr ⟨fun e => c.mp e (List.mem_of_getElem? h1), ?_⟩
    rw [h2, nI_eq (by omega) hi]
    constructor
    · rintro rfl; exact h1
    · intro e; exact (List.getElem?_inj hj hn).mp (h1.trans e.symm)
theorem queueAt_eq {u : CS} {row : List Nat} {i : Nat} (h : SR u row) (hn : row.Nodup) (h3 : ∀ x ∈ row, x < 3) (hi : i < 2 ^ 31) : m_X0_queueAt_r u (nI i) = if row[i]? = some 0 then nI 0 else if row[i]? = some 1 then nI 1 else if row[i]? = some 2 then nI 2 else (-1) := by
  have hl := row_le hn h3
  have k0 := at_k (q := 0) h hn hl (by decide) hi
  have k1 := at_k (q := 1) h hn hl (by decide) hi
  have k2 := at_k (q := 2) h hn hl (by decide) hi
  change (m_X3_isCalled_r (u 6) = 0 ∧ _) ∨ (¬ m_X3_isCalled_r (u 6) = 0 ∧ (u 6 3 = nI i ↔ _)) at k0
  change (m_X3_isCalled_r (u 7) = 0 ∧ _) ∨ (¬ m_X3_isCalled_r (u 7) = 0 ∧ (u 7 3 = nI i ↔ _)) at k1
  change (m_X3_isCalled_r (u 8) = 0 ∧ _) ∨ (¬ m_X3_isCalled_r (u 8) = 0 ∧ (u 8 3 = nI i ↔ _)) at k2
  rw [m_X0_queueAt_r]
  rcases k0 with ⟨a0, b0⟩ | ⟨a0, b0⟩ <;> rcases k1 with ⟨a1, b1⟩ | ⟨a1, b1⟩ <;> rcases k2 with ⟨a2, b2⟩ | ⟨a2, b2⟩ <;> simp only [a0, a1, a2, b0, b1, b2, if_true, if_false]
theorem queueAt_some {u : CS} {row : List Nat} {i q : Nat} (h : SR u row) (hn : row.Nodup) (h3 : ∀ x ∈ row, x < 3) (hi : row[i]? = some q) : m_X0_queueAt_r u (nI i) = nI q := by
  have hl := row_le hn h3
  have hil := (List.getElem?_eq_some_iff.mp hi).1
  have hq := h3 q (List.mem_of_getElem? hi)
  rw [queueAt_eq h hn h3 (by omega), hi]
  rcases (by omega : q = 0 ∨ q = 1 ∨ q = 2) with rfl | rfl | rfl <;> simp
theorem queueAt_none {u : CS} {row : List Nat} {i : Nat} (h : SR u row) (hn : row.Nodup) (h3 : ∀ x ∈ row, x < 3) (hi : row[i]? = none) (hb : i < 2 ^ 31) : m_X0_queueAt_r u (nI i) = (-1) := by
  rw [queueAt_eq h hn h3 hb, hi]
  simp
def leaveG (q : Nat) (u : CS) : CS := fun c => if c = 6 + q then upd (u c) 3 (-1) else if (c = 6 ∨ c = 7 ∨ c = 8) ∧ ¬ u c 3 ≤ u (6 + q) 3 then upd (u c) 3 (u c 3 - nI 1) else u c
theorem leave_0 (u : CS) : m_X0_leaveRow_0_u u = leaveG 0 u := by
  funext c
  have hr := Int32.le_refl (u 6 3)
  rw [m_X0_leaveRow_0_u, if_pos hr]
  unfold leaveG
  by_cases h7 : u 7 3 ≤ u 6 3
  · rw [if_pos h7]
    by_cases h8 : u 8 3 ≤ u 6 3
    · rw [if_pos h8]
      by_cases e6 : c = 6
      · subst e6; rw [st2_s, if_pos rfl]
      · rw [st2_n e6, if_neg e6, if_neg]
        rintro ⟨rfl | rfl | rfl, h⟩
        · exact e6 rfl
        · exact h h7
        · exact h h8
    · rw [if_neg h8]
      by_cases e8 : c = 8
      · subst e8; rw [st2_s, if_neg (by decide), if_pos ⟨Or.inr (Or.inr rfl), h8⟩]
      · rw [st2_n e8]
        by_cases e6 : c = 6
        · subst e6; rw [st2_s, if_pos rfl]
        · rw [st2_n e6, if_neg e6, if_neg]
          rintro ⟨rfl | rfl | rfl, h⟩
          · exact e6 rfl
          · exact h h7
          · exact e8 rfl
  · rw [if_neg h7]
    by_cases h8 : u 8 3 ≤ u 6 3
    · rw [if_pos h8]
      by_cases e7 : c = 7
      · subst e7; rw [st2_s, if_neg (by decide), if_pos ⟨Or.inr (Or.inl rfl), h7⟩]
      · rw [st2_n e7]
        by_cases e6 : c = 6
        · subst e6; rw [st2_s, if_pos rfl]
        · rw [st2_n e6, if_neg e6, if_neg]
          rintro ⟨rfl | rfl | rfl, h⟩
          · exact e6 rfl
          · exact e7 rfl
          · exact h h8
    · rw [if_neg h8]
      by_cases e8 : c = 8
      · subst e8; rw [st2_s, if_neg (by decide), if_pos ⟨Or.inr (Or.inr rfl), h8⟩]
      · rw [st2_n e8]
        by_cases e7 : c = 7
        · subst e7; rw [st2_s, if_neg (by decide), if_pos ⟨Or.inr (Or.inl rfl), h7⟩]
        · rw [st2_n e7]
          by_cases e6 : c = 6
          · subst e6; rw [st2_s, if_pos rfl]
          · rw [st2_n e6, if_neg e6, if_neg]
            rintro ⟨rfl | rfl | rfl, h⟩
            · exact e6 rfl
            · exact e7 rfl
            · exact e8 rfl
theorem leave_1 (u : CS) : m_X0_leaveRow_1_u u = leaveG 1 u := by
  funext c
  have hr := Int32.le_refl (u 7 3)
  rw [m_X0_leaveRow_1_u, if_pos hr, if_pos hr]
  unfold leaveG
  by_cases h6 : u 6 3 ≤ u 7 3
  · rw [if_pos h6]
    by_cases h8 : u 8 3 ≤ u 7 3
    · rw [if_pos h8]
      by_cases e7 : c = 7
      · subst e7; rw [st2_s, if_pos rfl]
      · rw [st2_n e7, if_neg e7, if_neg]
        rintro ⟨rfl | rfl | rfl, h⟩
        · exact h h6
        · exact e7 rfl
        · exact h h8
    · rw [if_neg h8]
      by_cases e8 : c = 8
      · subst e8; rw [st2_s, if_neg (by decide), if_pos ⟨Or.inr (Or.inr rfl), h8⟩]
      · rw [st2_n e8]
        by_cases e7 : c = 7
        · subst e7; rw [st2_s, if_pos rfl]
        · rw [st2_n e7, if_neg e7, if_neg]
          rintro ⟨rfl | rfl | rfl, h⟩
          · exact h h6
          · exact e7 rfl
          · exact e8 rfl
  · rw [if_neg h6]
    by_cases h8 : u 8 3 ≤ u 7 3
    · rw [if_pos h8]
      by_cases e7 : c = 7
      · subst e7; rw [st2_s, if_pos rfl]
      · rw [st2_n e7, if_neg e7]
        by_cases e6 : c = 6
        · subst e6; rw [st2_s, if_pos ⟨Or.inl rfl, h6⟩]
        · rw [st2_n e6, if_neg]
          rintro ⟨rfl | rfl | rfl, h⟩
          · exact e6 rfl
          · exact e7 rfl
          · exact h h8
    · rw [if_neg h8]
      by_cases e8 : c = 8
      · subst e8; rw [st2_s, if_neg (by decide), if_pos ⟨Or.inr (Or.inr rfl), h8⟩]
      · rw [st2_n e8]
        by_cases e7 : c = 7
        · subst e7; rw [st2_s, if_pos rfl]
        · rw [st2_n e7, if_neg e7]
          by_cases e6 : c = 6
          · subst e6; rw [st2_s, if_pos ⟨Or.inl rfl, h6⟩]
          · rw [st2_n e6, if_neg]
            rintro ⟨rfl | rfl | rfl, h⟩
            · exact e6 rfl
            · exact e7 rfl
            · exact e8 rfl
theorem leave_2 (u : CS) : m_X0_leaveRow_2_u u = leaveG 2 u := by
  funext c
  have hr := Int32.le_refl (u 8 3)
  rw [m_X0_leaveRow_2_u, if_pos hr, if_pos hr, if_pos hr, if_pos hr]
  unfold leaveG
  by_cases h6 : u 6 3 ≤ u 8 3
  · rw [if_pos h6]
    by_cases h7 : u 7 3 ≤ u 8 3
    · rw [if_pos h7]
      by_cases e8 : c = 8
      · subst e8; rw [st2_s, if_pos rfl]
      · rw [st2_n e8, if_neg e8, if_neg]
        rintro ⟨rfl | rfl | rfl, h⟩
        · exact h h6
        · exact h h7
        · exact e8 rfl
    · rw [if_neg h7]
      by_cases e8 : c = 8
      · subst e8; rw [st2_s, if_pos rfl]
      · rw [st2_n e8, if_neg e8]
        by_cases e7 : c = 7
        · subst e7; rw [st2_s, if_pos ⟨Or.inr (Or.inl rfl), h7⟩]
        · rw [st2_n e7, if_neg]
          rintro ⟨rfl | rfl | rfl, h⟩
          · exact h h6
          · exact e7 rfl
          · exact e8 rfl
  · rw [if_neg h6]
    by_cases h7 : u 7 3 ≤ u 8 3
    · rw [if_pos h7]
      by_cases e8 : c = 8
      · subst e8; rw [st2_s, if_pos rfl]
      · rw [st2_n e8, if_neg e8]
        by_cases e6 : c = 6
        · subst e6; rw [st2_s, if_pos ⟨Or.inl rfl, h6⟩]
        · rw [st2_n e6, if_neg]
          rintro ⟨rfl | rfl | rfl, h⟩
          · exact e6 rfl
          · exact h h7
          · exact e8 rfl
    · rw [if_neg h7]
      by_cases e8 : c = 8
      · subst e8; rw [st2_s, if_pos rfl]
      · rw [st2_n e8, if_neg e8]
        by_cases e7 : c = 7
        · subst e7; rw [st2_s, if_pos ⟨Or.inr (Or.inl rfl), h7⟩]
        · rw [st2_n e7]
          by_cases e6 : c = 6
          · subst e6; rw [st2_s, if_pos ⟨Or.inl rfl, h6⟩]
          · rw [st2_n e6, if_neg]
            rintro ⟨rfl | rfl | rfl, h⟩
            · exact e6 rfl
            · exact e7 rfl
            · exact e8 rfl
theorem leave_hd {q : Nat} {u : CS} : ∀ c, c < 6 → leaveG q u c = u c := by
  intro c hc
  unfold leaveG
  rw [if_neg (by omega), if_neg]
  rintro ⟨rfl | rfl | rfl, -⟩ <;> omega
theorem leave_q {q : Nat} {u : CS} : ∀ p, p < 3 → ∀ i, i ≠ 3 → leaveG q u (6 + p) i = u (6 + p) i := by
  intro p hp i hi
  unfold leaveG
  split
  · exact pk_un hi
  · split
    · exact pk_un hi
    · rfl
theorem leave_row {q : Nat} {u : CS} {rest : List Nat} (hq : q < 3) (hn : (q :: rest).Nodup) (h3 : ∀ x ∈ q :: rest, x < 3) (h : SR u (q :: rest)) : SR (leaveG q u) rest := by
  have hl := row_le hn h3
  simp only [List.length_cons] at hl
  have hq0 : u (6 + q) 3 = nI 0 := by
    rcases h q hq with ⟨h1, -⟩ | ⟨i, h1, h2⟩
    · exact absurd List.mem_cons_self h1
    · have := (List.getElem?_inj (i := 0) (j := i) (by simp) hn).mp (by rw [h1]; rfl)
      rw [h2, ← this]
  have hnq := (List.nodup_cons.mp hn).1
  intro p hp
  by_cases e : p = q
  · subst e
    refine Or.inl ⟨hnq, ?_⟩
    unfold leaveG
    rw [if_pos rfl]
    exact pk_us
  · unfold leaveG
    rw [if_neg (by omega), hq0]
    rcases h p hp with ⟨h1, h2⟩ | ⟨i, h1, h2⟩
    · refine Or.inl ⟨fun hm => h1 (List.mem_cons_of_mem _ hm), ?_⟩
      rw [if_neg, h2]
      rintro ⟨-, hle⟩
      exact hle (by rw [h2]; decide +kernel)
    · have hi := (List.getElem?_eq_some_iff.mp h1).1
      simp only [List.length_cons] at hi
      cases i with
      | zero => simp at h1; exact absurd h1.symm e
      | succ i =>
        refine Or.inr ⟨i, by simpa using h1, ?_⟩
        rw [if_pos, pk_us, h2, pk_sub (by omega), Nat.add_sub_cancel]
        refine ⟨by omega, ?_⟩
        rw [h2, nI_leI (by omega) (by decide)]
        omega
def lp_pollG (q : Nat) : Nat → CS → CS
  | 0, u => u
  | r + 1, u => if m_X0_hasFrame_r u (u (6 + q) 6) = 0 then u else lp_pollG q r (takeG q u)
def lp_pollNG (q : Nat) : Nat → CS → Nat
  | 0, _ => 0
  | r + 1, u => if m_X0_hasFrame_r u (u (6 + q) 6) = 0 then 0 else 1 + lp_pollNG q r (takeG q u)
theorem poll_G0 : ∀ (r : Nat) (u : CS), lp_poll_0 r u = lp_pollG 0 r u ∧ lp_pollN_0 r u = lp_pollNG 0 r u := by
  intro r
  induction r with
  | zero => intro u; exact ⟨rfl, rfl⟩
  | succ r ih =>
    intro u
    obtain ⟨h1, h2⟩ := ih (takeG 0 u)
    show (if m_X0_hasFrame_r u (u 6 6) = 0 then u else lp_poll_0 r (takeG 0 u)) = (if m_X0_hasFrame_r u (u 6 6) = 0 then u else lp_pollG 0 r (takeG 0 u)) ∧ (if m_X0_hasFrame_r u (u 6 6) = 0 then 0 else 1 + lp_pollN_0 r (takeG 0 u)) = (if m_X0_hasFrame_r u (u 6 6) = 0 then 0 else 1 + lp_pollNG 0 r (takeG 0 u))
    rw [h1, h2]
    exact ⟨rfl, rfl⟩
theorem poll_G1 : ∀ (r : Nat) (u : CS), lp_poll_1 r u = lp_pollG 1 r u ∧ lp_pollN_1 r u = lp_pollNG 1 r u := by
  intro r
  induction r with
  | zero => intro u; exact ⟨rfl, rfl⟩
  | succ r ih =>
    intro u
    obtain ⟨h1, h2⟩ := ih (takeG 1 u)
    show (if m_X0_hasFrame_r u (u 7 6) = 0 then u else lp_poll_1 r (takeG 1 u)) = (if m_X0_hasFrame_r u (u 7 6) = 0 then u else lp_pollG 1 r (takeG 1 u)) ∧ (if m_X0_hasFrame_r u (u 7 6) = 0 then 0 else 1 + lp_pollN_1 r (takeG 1 u)) = (if m_X0_hasFrame_r u (u 7 6) = 0 then 0 else 1 + lp_pollNG 1 r (takeG 1 u))
    rw [h1, h2]
    exact ⟨rfl, rfl⟩
theorem poll_G2 : ∀ (r : Nat) (u : CS), lp_poll_2 r u = lp_pollG 2 r u ∧ lp_pollN_2 r u = lp_pollNG 2 r u := by
  intro r
  induction r with
  | zero => intro u; exact ⟨rfl, rfl⟩
  | succ r ih =>
    intro u
    obtain ⟨h1, h2⟩ := ih (takeG 2 u)
    show (if m_X0_hasFrame_r u (u 8 6) = 0 then u else lp_poll_2 r (takeG 2 u)) = (if m_X0_hasFrame_r u (u 8 6) = 0 then u else lp_pollG 2 r (takeG 2 u)) ∧ (if m_X0_hasFrame_r u (u 8 6) = 0 then 0 else 1 + lp_pollN_2 r (takeG 2 u)) = (if m_X0_hasFrame_r u (u 8 6) = 0 then 0 else 1 + lp_pollNG 2 r (takeG 2 u))
    rw [h1, h2]
    exact ⟨rfl, rfl⟩
def PRG (q : Nat) (u1 : CS) (t : Nat) : CS := if leaveG q u1 1 1 ≤ nI t then st2 (leaveG q u1) (6 + q) (upd (leaveG q u1 (6 + q)) 3 (m_X0_rowLength_r (leaveG q u1))) else st2 (leaveG q u1) (6 + q) (m_X3_becomeIdle_q (leaveG q u1 (6 + q)) (if leaveG q u1 1 2 = nI 1 then nI 1 else nI 0))
theorem pr_0 (u1 : CS) (t : Nat) : m_pollrest_0_u1 u1 t = PRG 0 u1 t ∧ m_pollrest_0_r u1 t = nI t := by
  constructor
  · rw [m_pollrest_0_u1, leave_0, PRG]
    by_cases c : leaveG 0 u1 1 1 ≤ nI t
    · rw [if_pos c, if_pos c]
    · rw [if_neg c, if_neg c]
      by_cases d : leaveG 0 u1 1 2 = nI 1
      · rw [if_pos d, if_pos d]
      · rw [if_neg d, if_neg d]
  · rw [m_pollrest_0_r]
    split
    · rfl
    · split <;> rfl
theorem pr_1 (u1 : CS) (t : Nat) : m_pollrest_1_u1 u1 t = PRG 1 u1 t ∧ m_pollrest_1_r u1 t = nI t := by
  constructor
  · rw [m_pollrest_1_u1, leave_1, PRG]
    by_cases c : leaveG 1 u1 1 1 ≤ nI t
    · rw [if_pos c, if_pos c]
    · rw [if_neg c, if_neg c]
      by_cases d : leaveG 1 u1 1 2 = nI 1
      · rw [if_pos d, if_pos d]
      · rw [if_neg d, if_neg d]
  · rw [m_pollrest_1_r]
    split
    · rfl
    · split <;> rfl
theorem pr_2 (u1 : CS) (t : Nat) : m_pollrest_2_u1 u1 t = PRG 2 u1 t ∧ m_pollrest_2_r u1 t = nI t := by
  constructor
  · rw [m_pollrest_2_u1, leave_2, PRG]
    by_cases c : leaveG 2 u1 1 1 ≤ nI t
    · rw [if_pos c, if_pos c]
    · rw [if_neg c, if_neg c]
      by_cases d : leaveG 2 u1 1 2 = nI 1
      · rw [if_pos d, if_pos d]
      · rw [if_neg d, if_neg d]
  · rw [m_pollrest_2_r]
    split
    · rfl
    · split <;> rfl
theorem isq_t {q : Nat} (hq : q < 3) : ¬ m_X4_isQueue_r (nI q) = 0 := by
  rcases (by omega : q = 0 ∨ q = 1 ∨ q = 2) with rfl | rfl | rfl <;> decide +kernel
theorem poll_eq {u : CS} {q : Nat} (hq : q < 3) (h : m_X0_queueAt_r u (nI 0) = nI q) : m_X0_poll_u u = PRG q (lp_pollG q (tn (u 1 1)) u) (0 + lp_pollNG q (tn (u 1 1)) u) ∧ m_X0_poll_r u = nI (0 + lp_pollNG q (tn (u 1 1)) u) := by
  rw [m_X0_poll_u, m_X0_poll_r, h, if_neg (isq_t hq), if_neg (isq_t hq)]
  rcases (by omega : q = 0 ∨ q = 1 ∨ q = 2) with rfl | rfl | rfl
  · rw [if_pos rfl, if_pos rfl, (poll_G0 _ _).1, (poll_G0 _ _).2]
    exact pr_0 _ _
  · rw [if_neg (by decide +kernel), if_pos rfl, if_neg (by decide +kernel), if_pos rfl, (poll_G1 _ _).1, (poll_G1 _ _).2]
    exact pr_1 _ _
  · rw [if_neg (by decide +kernel), if_neg (by decide +kernel), if_neg (by decide +kernel), if_neg (by decide +kernel), (poll_G2 _ _).1, (poll_G2 _ _).2]
    exact pr_2 _ _
theorem take_pl {q : Nat} {u : CS} : ∀ p, p < 3 → takeG q u (6 + p) 3 = u (6 + p) 3 := by
  intro p hp
  unfold takeG
  by_cases e : p = q
  · subst e
    rw [st2_s, m_X0_takeOldest_q, note_eq]
    rfl
  · rw [st2_n (by omega), st2_n (by omega), st2_n (by omega)]
def nu (fo use s : Int32) : Int32 := if fo = nI 1 then (if s ≤ nI 2 * use then (if use ≤ nI 2 * s then use else if nI 1 ≤ use / nI 2 then use / nI 2 else nI 1) else if nI 2 * use ≤ nI 32 then nI 2 * use else nI 32) else use
theorem upd_id {f : Nat → Int32} {i : Nat} {x : Int32} (h : f i = x) : upd f i x = f := by
  funext j
  by_cases e : j = i
  · subst e; rw [pk_us, h]
  · rw [pk_un e]
theorem idle_eq (Q : Nat → Int32) (fo : Int32) : m_X3_becomeIdle_q Q (if fo = nI 1 then nI 1 else nI 0) = upd (upd Q 2 (nu fo (Q 2) (Q 12))) 12 (nI 0) := by
  have e : upd Q 2 (Q 2) = Q := upd_id rfl
  rw [m_X3_becomeIdle_q, nu]
  by_cases c1 : fo = nI 1
  · rw [if_pos c1, if_pos c1, if_neg (show ¬ nI 1 = 0 by decide +kernel)]
    by_cases c2 : Q 12 ≤ nI 2 * Q 2
    · rw [if_pos c2, if_pos c2]
      by_cases c3 : Q 2 ≤ nI 2 * Q 12
      · rw [if_pos c3, if_pos c3, e]
      · rw [if_neg c3, if_neg c3]
        by_cases c4 : Q 2 / nI 2 < nI 1
        · rw [if_pos c4, if_neg (Int32.not_le.mpr c4)]
        · rw [if_neg c4, if_pos (Int32.not_lt.mp c4)]
    · rw [if_neg c2, if_neg c2]
      by_cases c3 : nI 32 < nI 2 * Q 2
      · rw [if_pos c3, if_neg (Int32.not_le.mpr c3)]
      · rw [if_neg c3, if_pos (Int32.not_lt.mp c3)]
  · rw [if_neg c1, if_neg c1, e, if_pos (show nI 0 = 0 from rfl)]
theorem SR_cong {u u' : CS} {row : List Nat} (h : SR u row) (hq : ∀ q, q < 3 → u' (6 + q) 3 = u (6 + q) 3) : SR u' row := by
  intro q h3
  rw [hq q h3]
  exact h q h3
theorem SR_app {u : CS} {row : List Nat} {q : Nat} {Q : Nat → Int32} (hq : q < 3) (h : SR u row) (hn : q ∉ row) (hQ : Q 3 = nI row.length) : SR (st2 u (6 + q) Q) (row ++ [q]) := by
  intro p hp
  by_cases e : p = q
  · subst e
    refine Or.inr ⟨row.length, by simp, ?_⟩
    rw [st2_s, hQ]
  · rw [st2_n (by omega)]
    rcases h p hp with ⟨h1, h2⟩ | ⟨i, h1, h2⟩
    · exact Or.inl ⟨by simp [h1, e], h2⟩
    · exact Or.inr ⟨i, by rw [List.getElem?_append_left (List.getElem?_eq_some_iff.mp h1).1]; exact h1, h2⟩
def enterG (q : Nat) (u : CS) : CS := st2 u (6 + q) (upd (upd (upd (u (6 + q)) 3 (m_X0_rowLength_r u)) 7 ((u (6 + q) 7) + (nI 1))) 12 (nI 0))
theorem enter_0 (u : CS) : m_X0_enterRow_0_u u = enterG 0 u := rfl
theorem enter_1 (u : CS) : m_X0_enterRow_1_u u = enterG 1 u := rfl
theorem enter_2 (u : CS) : m_X0_enterRow_2_u u = enterG 2 u := rfl
def callG (q : Nat) (u : CS) : CS := if m_X0_whySilent_r u (u (6 + q)) = 0 then enterG q u else u
def tick1 (u : CS) : CS := st2 u 0 (upd (u 0) 2 (u 0 2 + nI 1))
theorem tick_G (u : CS) : m_X0_tick_u u = tick1 (callG 2 (callG 1 (callG 0 (m_X0_poll_u u)))) ∧ m_X0_tick_r u = m_X0_poll_r u := by
  obtain ⟨v, hv⟩ : ∃ v, m_X0_poll_u u = v := ⟨_, rfl⟩
  rw [m_X0_tick_u, m_X0_tick_r, hv, enter_0]
  unfold callG
  by_cases c0 : m_X0_whySilent_r v (v 6) = 0
  · rw [if_pos c0, if_pos c0, if_pos (show m_X0_whySilent_r v (v (6 + 0)) = 0 from c0)]
    obtain ⟨v0, hv0⟩ : ∃ v0, enterG 0 v = v0 := ⟨_, rfl⟩
    rw [hv0, enter_1]
    by_cases c1 : m_X0_whySilent_r v0 (v0 7) = 0
    · rw [if_pos c1, if_pos c1, if_pos (show m_X0_whySilent_r v0 (v0 (6 + 1)) = 0 from c1)]
      obtain ⟨v1, hv1⟩ : ∃ v1, enterG 1 v0 = v1 := ⟨_, rfl⟩
      rw [hv1]
      by_cases c2 : m_X0_whySilent_r v1 (v1 8) = 0
      · rw [if_pos c2, if_pos c2, if_pos (show m_X0_whySilent_r v1 (v1 (6 + 2)) = 0 from c2)]; exact ⟨rfl, rfl⟩
      · rw [if_neg c2, if_neg c2, if_neg (show ¬ m_X0_whySilent_r v1 (v1 (6 + 2)) = 0 from c2)]; exact ⟨rfl, rfl⟩
    · rw [if_neg c1, if_neg c1, if_neg (show ¬ m_X0_whySilent_r v0 (v0 (6 + 1)) = 0 from c1)]
      by_cases c2 : m_X0_whySilent_r v0 (v0 8) = 0
      · rw [if_pos c2, if_pos c2, if_pos (show m_X0_whySilent_r v0 (v0 (6 + 2)) = 0 from c2)]; exact ⟨rfl, rfl⟩
      · rw [if_neg c2, if_neg c2, if_neg (show ¬ m_X0_whySilent_r v0 (v0 (6 + 2)) = 0 from c2)]; exact ⟨rfl, rfl⟩
  · rw [if_neg c0, if_neg c0, if_neg (show ¬ m_X0_whySilent_r v (v (6 + 0)) = 0 from c0), enter_1]
    by_cases c1 : m_X0_whySilent_r v (v 7) = 0
    · rw [if_pos c1, if_pos c1, if_pos (show m_X0_whySilent_r v (v (6 + 1)) = 0 from c1)]
      obtain ⟨v1, hv1⟩ : ∃ v1, enterG 1 v = v1 := ⟨_, rfl⟩
      rw [hv1]
      by_cases c2 : m_X0_whySilent_r v1 (v1 8) = 0
      · rw [if_pos c2, if_pos c2, if_pos (show m_X0_whySilent_r v1 (v1 (6 + 2)) = 0 from c2)]; exact ⟨rfl, rfl⟩
      · rw [if_neg c2, if_neg c2, if_neg (show ¬ m_X0_whySilent_r v1 (v1 (6 + 2)) = 0 from c2)]; exact ⟨rfl, rfl⟩
    · rw [if_neg c1, if_neg c1, if_neg (show ¬ m_X0_whySilent_r v (v (6 + 1)) = 0 from c1)]
      by_cases c2 : m_X0_whySilent_r v (v 8) = 0
      · rw [if_pos c2, if_pos c2, if_pos (show m_X0_whySilent_r v (v (6 + 2)) = 0 from c2)]; exact ⟨rfl, rfl⟩
      · rw [if_neg c2, if_neg c2, if_neg (show ¬ m_X0_whySilent_r v (v (6 + 2)) = 0 from c2)]; exact ⟨rfl, rfl⟩
theorem callG_8 {q : Nat} {u : CS} : ∀ p, callG q u (6 + p) 8 = u (6 + p) 8 := by
  intro p
  unfold callG enterG
  split
  · by_cases e : p = q
    · subst e; rw [st2_s]; rfl
    · rw [st2_n (by omega)]
  · rfl
theorem pollN_le {q : Nat} : ∀ (r : Nat) (u : CS), lp_pollNG q r u ≤ r := by
  intro r
  induction r with
  | zero => intro u; exact Nat.le_refl _
  | succ r ih =>
    intro u
    rw [lp_pollNG]
    split
    · omega
    · have := ih (takeG q u); omega
theorem k_nn {x : Int32} (h : ¬ x < nI 0) : ¬ x < 0 := h
theorem cmk_eq {u : CS} {j : Nat} (hj : j < 3) (hb : BB (u (6 + j) 4)) : m_X0_changeMask_r u (nI j) = nI 1 - u (6 + j) 4 ∧ m_X0_changeMask_u u (nI j) = st2 u (6 + j) (upd (u (6 + j)) 4 (nI 1 - u (6 + j) 4)) ∧ BB (nI 1 - u (6 + j) 4) := by
  have e0 : nI 1 - nI 0 = nI 1 := by decide +kernel
  have e1 : nI 1 - nI 1 = nI 0 := by decide +kernel
  rw [m_X0_changeMask_r, m_X0_changeMask_u, if_neg (isq_t hj), if_neg (isq_t hj)]
  rcases (by omega : j = 0 ∨ j = 1 ∨ j = 2) with rfl | rfl | rfl
  · change BB (u 6 4) at hb
    show _ = nI 1 - u 6 4 ∧ _ = st2 u 6 (upd (u 6) 4 (nI 1 - u 6 4)) ∧ BB (nI 1 - u 6 4)
    rw [if_pos rfl, if_pos rfl]
    rcases hb with b | b
    · rw [b, if_pos (show nI 0 = 0 from rfl), if_pos (show nI 0 = 0 from rfl), e0]; exact ⟨rfl, rfl, Or.inr rfl⟩
    · rw [b, if_neg (show ¬ nI 1 = 0 by decide +kernel), if_neg (show ¬ nI 1 = 0 by decide +kernel), e1]; exact ⟨rfl, rfl, Or.inl rfl⟩
  · change BB (u 7 4) at hb
    show _ = nI 1 - u 7 4 ∧ _ = st2 u 7 (upd (u 7) 4 (nI 1 - u 7 4)) ∧ BB (nI 1 - u 7 4)
    have n10 : ¬ nI 1 = nI 0 := by decide +kernel
    have n11 : nI 1 = nI 1 := rfl
    rw [if_neg n10, if_neg n10, if_pos n11, if_pos n11]
    rcases hb with b | b
    · rw [b, if_pos (show nI 0 = 0 from rfl), if_pos (show nI 0 = 0 from rfl), e0]; exact ⟨rfl, rfl, Or.inr rfl⟩
    · rw [b, if_neg (show ¬ nI 1 = 0 by decide +kernel), if_neg (show ¬ nI 1 = 0 by decide +kernel), e1]; exact ⟨rfl, rfl, Or.inl rfl⟩
  · change BB (u 8 4) at hb
    show _ = nI 1 - u 8 4 ∧ _ = st2 u 8 (upd (u 8) 4 (nI 1 - u 8 4)) ∧ BB (nI 1 - u 8 4)
    have n20 : ¬ nI 2 = nI 0 := by decide +kernel
    have n21 : ¬ nI 2 = nI 1 := by decide +kernel
    rw [if_neg n20, if_neg n20, if_neg n21, if_neg n21]
    rcases hb with b | b
    · rw [b, if_pos (show nI 0 = 0 from rfl), if_pos (show nI 0 = 0 from rfl), e0]; exact ⟨rfl, rfl, Or.inr rfl⟩
    · rw [b, if_neg (show ¬ nI 1 = 0 by decide +kernel), if_neg (show ¬ nI 1 = 0 by decide +kernel), e1]; exact ⟨rfl, rfl, Or.inl rfl⟩
theorem BB_nn {x : Int32} (h : BB x) : ¬ x < 0 := by
  rcases h with rfl | rfl <;> decide
def recvG (j : Nat) (u : CS) (x s : Int32) (Q : Nat → Int32) : CS := st2 (st2 (st2 (st2 (st2 u 0 (upd (u 0) 3 (nI (cn u + 1)))) 2 (upd (u 2) (cn u) x)) 3 (upd (u 3) (cn u) (u 0 2))) 4 (upd (u 4) (cn u) s)) (6 + j) Q
theorem receive_eq {u : CS} {x : Int32} {j : Nat} (hj : j < 3) (h0 : ¬ x < 0) (h9 : x ≤ nI 99) (hc : cn u < 400) (hx : x - x / nI 3 * nI 3 = nI j) : m_X0_receive_r u x = nI (cn u) ∧ m_X0_receive_u u x = if u (6 + j) 5 < u 1 0 then (if u (6 + j) 6 = (-6) then recvG j u x (nI 0) (upd (upd (u (6 + j)) 5 ((u (6 + j) 5) + (nI 1))) 6 (nI (cn u))) else recvG j u x (nI 0) (upd (u (6 + j)) 5 ((u (6 + j) 5) + (nI 1)))) else recvG j u x (nI 2) (upd (u (6 + j)) 9 ((u (6 + j) 9) + (nI 1))) := by
  have n10 : ¬ nI 1 = nI 0 := by decide +kernel
  have n20 : ¬ nI 2 = nI 0 := by decide +kernel
  have n21 : ¬ nI 2 = nI 1 := by decide +kernel
  have n00 : nI 0 = nI 0 := rfl
  have n11 : nI 1 = nI 1 := rfl
  rw [m_X0_receive_r, m_X0_receive_u, if_neg h0, if_neg h0, if_pos h9, if_pos h9, if_pos hc, if_pos hc, hx]
  rcases (by omega : j = 0 ∨ j = 1 ∨ j = 2) with rfl | rfl | rfl
  · rw [if_pos n00, if_pos n00]
    refine ⟨?_, rfl⟩
    split
    · split <;> rfl
    · rfl
  · rw [if_neg n10, if_neg n10, if_pos n11, if_pos n11]
    refine ⟨?_, rfl⟩
    split
    · split <;> rfl
    · rfl
  · rw [if_neg n20, if_neg n20, if_neg n21, if_neg n21]
    refine ⟨?_, rfl⟩
    split
    · split <;> rfl
    · rfl
theorem cpq {q o : Nat → Int32} : ∀ i, i < 13 → m_X3_copyFrom_q q o i = o i := by
  intro i hi
  rcases (by omega : i = 0 ∨ i = 1 ∨ i = 2 ∨ i = 3 ∨ i = 4 ∨ i = 5 ∨ i = 6 ∨ i = 7 ∨ i = 8 ∨ i = 9 ∨ i = 10 ∨ i = 11 ∨ i = 12) with rfl | rfl | rfl | rfl | rfl | rfl | rfl | rfl | rfl | rfl | rfl | rfl | rfl <;> rfl
theorem cpy0 {f g : Nat → Int32} {n i : Nat} (h : i < n) : va_cpy f g 0 0 n i = f i := by
  rw [pk_cpy_in (by omega) (by omega)]
  congr 1
  omega
theorem fact_3 (q : Nat → Int32) : m_X3_fact_r q (nI 3) = q 5 := rfl
theorem fact_6 (q : Nat → Int32) : m_X3_fact_r q (nI 6) = q 7 := rfl
theorem fact_7 (q : Nat → Int32) : m_X3_fact_r q (nI 7) = q 8 := rfl
theorem fact_8 (q : Nat → Int32) : m_X3_fact_r q (nI 8) = q 9 := rfl
theorem fact_9 (q : Nat → Int32) : m_X3_fact_r q (nI 9) = q 10 := rfl
theorem pollG_k {q : Nat} : ∀ (r : Nat) (u : CS), lp_pollG q r u 2 = u 2 ∧ lp_pollG q r u 3 = u 3 ∧ ∀ i, lp_pollG q r u 4 i = u 4 i ∨ lp_pollG q r u 4 i = nI 1 := by
  intro r
  induction r with
  | zero => intro u; exact ⟨rfl, rfl, fun _ => Or.inl rfl⟩
  | succ r ih =>
    intro u
    rw [lp_pollG]
    split
    · exact ⟨rfl, rfl, fun _ => Or.inl rfl⟩
    · obtain ⟨h2, h3, h4⟩ := ih (takeG q u)
      have e2 : takeG q u 2 = u 2 := by unfold takeG; rw [st2_n (by omega), st2_n (by decide), st2_n (by decide)]
      have e3 : takeG q u 3 = u 3 := by unfold takeG; rw [st2_n (by omega), st2_n (by decide), st2_n (by decide)]
      have e4 : takeG q u 4 = upd (u 4) (tn (u (6 + q) 6)) (nI 1) := by unfold takeG; rw [st2_n (by omega), st2_n (by decide), st2_s]; rfl
      refine ⟨h2.trans e2, h3.trans e3, fun i => ?_⟩
      rcases h4 i with h | h
      · rw [h, e4]
        by_cases e : i = tn (u (6 + q) 6)
        · subst e; exact Or.inr pk_us
        · exact Or.inl (pk_un e)
      · exact Or.inr h
theorem PRG_k {q t : Nat} {u : CS} {c : Nat} (hc : c < 6) : PRG q u t c = u c := by
  unfold PRG
  split
  · rw [st2_n (by omega), leave_hd c hc]
  · rw [st2_n (by omega), leave_hd c hc]
theorem poll_c (u : CS) : m_X0_poll_u u = u ∨ ∃ q r t, q < 3 ∧ m_X0_poll_u u = PRG q (lp_pollG q r u) t := by
  rw [m_X0_poll_u]
  split
  · exact Or.inl rfl
  · refine Or.inr ?_
    split
    · exact ⟨0, tn (u 1 1), _, by decide, by rw [(poll_G0 _ _).1]; exact (pr_0 _ _).1⟩
    · split
      · exact ⟨1, tn (u 1 1), _, by decide, by rw [(poll_G1 _ _).1]; exact (pr_1 _ _).1⟩
      · exact ⟨2, tn (u 1 1), _, by decide, by rw [(poll_G2 _ _).1]; exact (pr_2 _ _).1⟩
theorem callG_k {q : Nat} {u : CS} {c : Nat} (hc : c < 6) : callG q u c = u c := by
  unfold callG enterG
  split
  · rw [st2_n (by omega)]
  · rfl
theorem tick_k (u : CS) : m_X0_tick_u u 2 = u 2 ∧ m_X0_tick_u u 3 = u 3 ∧ ∀ i, m_X0_tick_u u 4 i = u 4 i ∨ m_X0_tick_u u 4 i = nI 1 := by
  have e : ∀ c, 1 ≤ c → c < 6 → m_X0_tick_u u c = m_X0_poll_u u c := by
    intro c h1 h6
    rw [(tick_G u).1]
    unfold tick1
    rw [st2_n (by omega), callG_k h6, callG_k h6, callG_k h6]
  rw [e 2 (by decide) (by decide), e 3 (by decide) (by decide), e 4 (by decide) (by decide)]
  rcases poll_c u with h | ⟨q, r, t, -, h⟩
  · rw [h]; exact ⟨rfl, rfl, fun _ => Or.inl rfl⟩
  · rw [h, PRG_k (by decide), PRG_k (by decide), PRG_k (by decide)]
    exact pollG_k r u
