/-! The row: places on the card, a list in the reference -/
theorem AF_of {f g : Nat → Int32} {n : Nat} (hn : n ≤ 400) (h : ∀ j, 40 ≤ j → j < 1640 → g j = f j) : AF n f g := fun i hi w hw => h _ (by omega) (by omega)
theorem AF.le {f g : Nat → Int32} {n m : Nat} (h : AF n f g) (hm : m ≤ n) : AF m f g := fun i hi => h i (by omega)
theorem FRM_cong {u u' : CS} {f g : Nat → Int32} {i : Nat} (h2 : u' 2 = u 2) (h3 : u' 3 = u 3) (h4 : u' 4 = u 4) (h5 : u' 5 = u 5) (hg : ∀ w, w < 4 → m_X5_frameAt_r g i w = m_X5_frameAt_r f i w) (h : FRM u f i) : FRM u' g i := by
  unfold FRM
  rw [h2, h3, h4, h5, hg 0 (by decide), hg 1 (by decide), hg 2 (by decide), hg 3 (by decide)]
  exact h
theorem CORE_q {u : CS} {f g : Nat → Int32} {q : Nat} {Q : Nat → Int32} (hq : q < 3) (h : CORE u f) (hd : ∀ j, j < 6 → g j = f j) (hA : AF 400 f g) (ho : ∀ p, p < 3 → p ≠ q → ∀ w, w < 10 → m_X5_get_r g p w = m_X5_get_r f p w) (hQ : ∀ w, w < 10 → Q (gq w) = m_X5_get_r g q w) (h5 : Q 5 = u (6 + q) 5) (h6 : Q 6 = u (6 + q) 6) (hB : BB (Q 4)) : CORE (st2 u (6 + q) Q) g := by
  obtain ⟨hM, e4, e5, hS, hF, hq0⟩ := h
  have hc := hM.2.1
  have h5c : tn (f 5) = cn u := by rw [← e5]
  have w : ∀ c, c < 6 → st2 u (6 + q) Q c = u c := fun c hc => st2_n (by omega)
  have hcn : cn (st2 u (6 + q) Q) = cn u := by show tn (st2 u (6 + q) Q 0 3) = _; rw [w 0 (by decide)]
  have hi : ∀ p k, k < tn (f 5) → m_X5_isInRing_r g k p = m_X5_isInRing_r f k p := fun p k hk => isin_eq (hA k (by omega))
  refine ⟨CM_of hM (w 0 (by decide)) (w 1 (by decide)), by rw [w 0 (by decide), e4, hd 4 (by decide)], by rw [w 0 (by decide), e5, hd 5 (by decide)], fun j hj => by rw [w 1 (by decide), hS j hj, hd j (by omega)], fun i hi => ?_, fun p hp => ?_⟩
  · rw [hcn] at hi
    exact FRM_cong (w 2 (by decide)) (w 3 (by decide)) (w 4 (by decide)) (w 5 (by decide)) (hA i (by omega)) (hF i hi)
  · unfold SQ
    rw [ring_eq (hd 5 (by decide)) (hi p), oldest_eq (hd 5 (by decide)) (hi p)]
    by_cases e : p = q
    · subst e
      rw [st2_s]
      exact ⟨hQ, h5.trans (hq0 p hp).2.1, h6.trans (hq0 p hp).2.2.1, hB⟩
    · rw [st2_n (by omega)]
      exact ⟨fun w hw => by rw [ho p hp e w hw]; exact (hq0 p hp).1 w hw, (hq0 p hp).2⟩
theorem CORE_cong {u u' : CS} {f g : Nat → Int32} (h : CORE u f) (hu : ∀ c, c < 6 → u' c = u c) (hq : ∀ q, q < 3 → ∀ i, i ≠ 3 → u' (6 + q) i = u (6 + q) i) (hd : ∀ j, j < 6 → g j = f j) (hg : ∀ j, 10 ≤ j → j < 1640 → g j = f j) : CORE u' g := by
  obtain ⟨hM, e4, e5, hS, hF, hq0⟩ := h
  have hc := hM.2.1
  have h5c : tn (f 5) = cn u := by rw [← e5]
  have hA : AF 400 f g := AF_of (Nat.le_refl _) (fun j h1 h2 => hg j (by omega) h2)
  have hcn : cn u' = cn u := by show tn (u' 0 3) = _; rw [hu 0 (by decide)]
  have hi : ∀ p k, k < tn (f 5) → m_X5_isInRing_r g k p = m_X5_isInRing_r f k p := fun p k hk => isin_eq (hA k (by omega))
  refine ⟨CM_of hM (hu 0 (by decide)) (hu 1 (by decide)), by rw [hu 0 (by decide), e4, hd 4 (by decide)], by rw [hu 0 (by decide), e5, hd 5 (by decide)], fun j hj => by rw [hu 1 (by decide), hS j hj, hd j (by omega)], fun i hi => ?_, fun p hp => ?_⟩
  · rw [hcn] at hi
    exact FRM_cong (hu 2 (by decide)) (hu 3 (by decide)) (hu 4 (by decide)) (hu 5 (by decide)) (hA i (by omega)) (hF i hi)
  · obtain ⟨b0, b1, b2, b3⟩ := hq0 p hp
    unfold SQ
    rw [ring_eq (hd 5 (by decide)) (hi p), oldest_eq (hd 5 (by decide)) (hi p), hq p hp 5 (by decide), hq p hp 6 (by decide), hq p hp 4 (by decide)]
    refine ⟨fun w hw => ?_, b1, b2, b3⟩
    rw [hq p hp _ (gq_3 w), b0 w hw]
    exact (hg _ (by omega) (by omega)).symm
theorem call_in {u : CS} {row : List Nat} {q : Nat} (h : SR u row) (hl : row.length ≤ 3) (hq : q < 3) : m_X3_isCalled_r (u (6 + q)) = 0 ↔ q ∉ row := by
  unfold m_X3_isCalled_r
  rcases h q hq with ⟨h1, h2⟩ | ⟨i, h1, h2⟩
  · rw [if_pos h2]
    exact ⟨fun _ => h1, fun _ => rfl⟩
  · have hi := (List.getElem?_eq_some_iff.mp h1).1
    rw [if_neg (by rw [h2]; exact k_neg (by omega) (by decide))]
    exact ⟨fun e => absurd e (by decide), fun e => absurd (List.mem_of_getElem? h1) e⟩
theorem row_le {row : List Nat} (hn : row.Nodup) (h3 : ∀ x ∈ row, x < 3) : row.length ≤ 3 := by
  match row, hn, h3 with
  | [], _, _ => simp
  | [a], _, _ => simp
  | [a, b], _, _ => simp
  | [a, b, c], _, _ => simp
  | a :: b :: c :: d :: t, hn, h3 =>
    simp only [List.nodup_cons, List.mem_cons, not_or] at hn
    have ha := h3 a (by simp)
    have hb := h3 b (by simp)
    have hc := h3 c (by simp)
    have hd := h3 d (by simp)
    omega
theorem row_len {row : List Nat} (hn : row.Nodup) (h3 : ∀ x ∈ row, x < 3) : row.length = (if 0 ∈ row then 1 else 0) + (if 1 ∈ row then 1 else 0) + (if 2 ∈ row then 1 else 0) := by
  have hl := row_le hn h3
  match row, hn, h3, hl with
  | [], _, _, _ => rfl
  | [a], _, h3, _ =>
    have ha := h3 a (by simp)
    rcases (by omega : a = 0 ∨ a = 1 ∨ a = 2) with rfl | rfl | rfl <;> decide
  | [a, b], hn, h3, _ =>
    have ha := h3 a (by simp)
    have hb := h3 b (by simp)
    rcases (by omega : a = 0 ∨ a = 1 ∨ a = 2) with rfl | rfl | rfl <;> rcases (by omega : b = 0 ∨ b = 1 ∨ b = 2) with rfl | rfl | rfl <;> first | decide | exact absurd hn (by decide)
  | [a, b, c], hn, h3, _ =>
    have ha := h3 a (by simp)
    have hb := h3 b (by simp)
    have hc := h3 c (by simp)
    rcases (by omega : a = 0 ∨ a = 1 ∨ a = 2) with rfl | rfl | rfl <;> rcases (by omega : b = 0 ∨ b = 1 ∨ b = 2) with rfl | rfl | rfl <;> rcases (by omega : c = 0 ∨ c = 1 ∨ c = 2) with rfl | rfl | rfl <;> first | decide | exact absurd hn (by decide)
  | a :: b :: c :: d :: t, _, _, hl => simp only [List.length_cons] at hl; omega
theorem rowLength_eq {u : CS} {row : List Nat} (h : SR u row) (hn : row.Nodup) (h3 : ∀ x ∈ row, x < 3) : m_X0_rowLength_r u = nI row.length := by
  have hl := row_le hn h3
  have c0 : m_X3_isCalled_r (u 6) = 0 ↔ 0 ∉ row := call_in (q := 0) h hl (by decide)
  have c1 : m_X3_isCalled_r (u 7) = 0 ↔ 1 ∉ row := call_in (q := 1) h hl (by decide)
  have c2 : m_X3_isCalled_r (u 8) = 0 ↔ 2 ∉ row := call_in (q := 2) h hl (by decide)
  rw [m_X0_rowLength_r, row_len hn h3]
  by_cases m0 : 0 ∈ row
  · rw [if_neg (fun e => (c0.mp e) m0), if_pos m0]
    by_cases m1 : 1 ∈ row
    · rw [if_neg (fun e => (c1.mp e) m1), if_pos m1]
      by_cases m2 : 2 ∈ row
      · rw [if_neg (fun e => (c2.mp e) m2), if_pos m2]
      · rw [if_pos (c2.mpr m2), if_neg m2]
    · rw [if_pos (c1.mpr m1), if_neg m1]
      by_cases m2 : 2 ∈ row
      · rw [if_neg (fun e => (c2.mp e) m2), if_pos m2]
      · rw [if_pos (c2.mpr m2), if_neg m2]
  · rw [if_pos (c0.mpr m0), if_neg m0]
    by_cases m1 : 1 ∈ row
    · rw [if_neg (fun e => (c1.mp e) m1), if_pos m1]
      by_cases m2 : 2 ∈ row
      · rw [if_neg (fun e => (c2.mp e) m2), if_pos m2]
      · rw [if_pos (c2.mpr m2), if_neg m2]
    · rw [if_pos (c1.mpr m1), if_neg m1]
      by_cases m2 : 2 ∈ row
      · rw [if_neg (fun e => (c2.mp e) m2), if_pos m2]
      · rw [if_pos (c2.mpr m2), if_neg m2]
theorem at_k {u : CS} {row : List Nat} {q i : Nat} (h : SR u row) (hn : row.Nodup) (hl : row.length ≤ 3) (hq : q < 3) (hi : i < 2 ^ 31) : (m_X3_isCalled_r (u (6 + q)) = 0 ∧ ¬ row[i]? = some q) ∨ (¬ m_X3_isCalled_r (u (6 + q)) = 0 ∧ (u (6 + q) 3 = nI i ↔ row[i]? = some q)) := by
  have c := call_in h hl hq
  rcases h q hq with ⟨h1, h2⟩ | ⟨j, h1, h2⟩
  · exact Or.inl ⟨c.mpr h1, fun e => h1 (List.mem_of_getElem? e)⟩
  · have hj := (List.getElem?_eq_some_iff.mp h1).1
    refine Or.inr ⟨fun e => c.mp e (List.mem_of_getElem? h1), ?_⟩
    rw [h2, nI_eq (by omega) hi]
    constructor
    · rintro rfl; exact h1
    · intro e; exact (List.getElem?_inj hj hn).mp (h1.trans e.symm)
theorem queueAt_eq {u : CS} {row : List Nat} {i : Nat} (h : SR u row) (hn : row.Nodup) (h3 : ∀ x ∈ row, x < 3) (hi : i < 2 ^ 31) : m_X0_queueAt_r u (nI i) = if row[i]? = some 0 then nI 0 else if row[i]? = some 1 then nI 1 else if row[i]? = some 2 then nI 2 else (-1) := by
  have hl := row_le hn h3
  have k0 := at_k (q := 0) h hn hl (by decide) hi
  have k1 := at_k (q := 1) h hn hl (by decide) hi
  have k2 := at_k (q := 2) h hn hl (by decide) hi
  change (m_X3_isCalled_r (u 6) = 0 ∧ _) ∨ (¬ m_X3_isCalled_r (u 6) = 0 ∧ (u 6 3 = nI i ↔ _)) at k0
  change (m_X3_isCalled_r (u 7) = 0 ∧ _) ∨ (¬ m_X3_isCalled_r (u 7) = 0 ∧ (u 7 3 = nI i ↔ _)) at k1
  change (m_X3_isCalled_r (u 8) = 0 ∧ _) ∨ (¬ m_X3_isCalled_r (u 8) = 0 ∧ (u 8 3 = nI i ↔ _)) at k2
  rw [m_X0_queueAt_r]
  rcases k0 with ⟨a0, b0⟩ | ⟨a0, b0⟩ <;> rcases k1 with ⟨a1, b1⟩ | ⟨a1, b1⟩ <;> rcases k2 with ⟨a2, b2⟩ | ⟨a2, b2⟩ <;> simp only [a0, a1, a2, b0, b1, b2, if_true, if_false]
theorem queueAt_some {u : CS} {row : List Nat} {i q : Nat} (h : SR u row) (hn : row.Nodup) (h3 : ∀ x ∈ row, x < 3) (hi : row[i]? = some q) : m_X0_queueAt_r u (nI i) = nI q := by
  have hl := row_le hn h3
  have hil := (List.getElem?_eq_some_iff.mp hi).1
  have hq := h3 q (List.mem_of_getElem? hi)
  rw [queueAt_eq h hn h3 (by omega), hi]
  rcases (by omega : q = 0 ∨ q = 1 ∨ q = 2) with rfl | rfl | rfl <;> simp
theorem queueAt_none {u : CS} {row : List Nat} {i : Nat} (h : SR u row) (hn : row.Nodup) (h3 : ∀ x ∈ row, x < 3) (hi : row[i]? = none) (hb : i < 2 ^ 31) : m_X0_queueAt_r u (nI i) = (-1) := by
  rw [queueAt_eq h hn h3 hb, hi]
  simp
/-! who leaves the row -/
def leaveG (q : Nat) (u : CS) : CS := fun c => if c = 6 + q then upd (u c) 3 (-1) else if (c = 6 ∨ c = 7 ∨ c = 8) ∧ ¬ u c 3 ≤ u (6 + q) 3 then upd (u c) 3 (u c 3 - nI 1) else u c
theorem leave_0 (u : CS) : m_X0_leaveRow_0_u u = leaveG 0 u := by
  funext c
  have hr := Int32.le_refl (u 6 3)
  rw [m_X0_leaveRow_0_u, if_pos hr]
  unfold leaveG
  by_cases h7 : u 7 3 ≤ u 6 3
  · rw [if_pos h7]
    by_cases h8 : u 8 3 ≤ u 6 3
    · rw [if_pos h8]
      by_cases e6 : c = 6
      · subst e6; rw [st2_s, if_pos rfl]
      · rw [st2_n e6, if_neg e6, if_neg]
        rintro ⟨rfl | rfl | rfl, h⟩
        · exact e6 rfl
        · exact h h7
        · exact h h8
    · rw [if_neg h8]
      by_cases e8 : c = 8
      · subst e8; rw [st2_s, if_neg (by decide), if_pos ⟨Or.inr (Or.inr rfl), h8⟩]
      · rw [st2_n e8]
        by_cases e6 : c = 6
        · subst e6; rw [st2_s, if_pos rfl]
        · rw [st2_n e6, if_neg e6, if_neg]
          rintro ⟨rfl | rfl | rfl, h⟩
          · exact e6 rfl
          · exact h h7
          · exact e8 rfl
  · rw [if_neg h7]
    by_cases h8 : u 8 3 ≤ u 6 3
    · rw [if_pos h8]
      by_cases e7 : c = 7
      · subst e7; rw [st2_s, if_neg (by decide), if_pos ⟨Or.inr (Or.inl rfl), h7⟩]
      · rw [st2_n e7]
        by_cases e6 : c = 6
        · subst e6; rw [st2_s, if_pos rfl]
        · rw [st2_n e6, if_neg e6, if_neg]
          rintro ⟨rfl | rfl | rfl, h⟩
          · exact e6 rfl
          · exact e7 rfl
          · exact h h8
    · rw [if_neg h8]
      by_cases e8 : c = 8
      · subst e8; rw [st2_s, if_neg (by decide), if_pos ⟨Or.inr (Or.inr rfl), h8⟩]
      · rw [st2_n e8]
        by_cases e7 : c = 7
        · subst e7; rw [st2_s, if_neg (by decide), if_pos ⟨Or.inr (Or.inl rfl), h7⟩]
        · rw [st2_n e7]
          by_cases e6 : c = 6
          · subst e6; rw [st2_s, if_pos rfl]
          · rw [st2_n e6, if_neg e6, if_neg]
            rintro ⟨rfl | rfl | rfl, h⟩
            · exact e6 rfl
            · exact e7 rfl
            · exact e8 rfl
theorem leave_1 (u : CS) : m_X0_leaveRow_1_u u = leaveG 1 u := by
  funext c
  have hr := Int32.le_refl (u 7 3)
  rw [m_X0_leaveRow_1_u, if_pos hr, if_pos hr]
  unfold leaveG
  by_cases h6 : u 6 3 ≤ u 7 3
  · rw [if_pos h6]
    by_cases h8 : u 8 3 ≤ u 7 3
    · rw [if_pos h8]
      by_cases e7 : c = 7
      · subst e7; rw [st2_s, if_pos rfl]
      · rw [st2_n e7, if_neg e7, if_neg]
        rintro ⟨rfl | rfl | rfl, h⟩
        · exact h h6
        · exact e7 rfl
        · exact h h8
    · rw [if_neg h8]
      by_cases e8 : c = 8
      · subst e8; rw [st2_s, if_neg (by decide), if_pos ⟨Or.inr (Or.inr rfl), h8⟩]
      · rw [st2_n e8]
        by_cases e7 : c = 7
        · subst e7; rw [st2_s, if_pos rfl]
        · rw [st2_n e7, if_neg e7, if_neg]
          rintro ⟨rfl | rfl | rfl, h⟩
          · exact h h6
          · exact e7 rfl
          · exact e8 rfl
  · rw [if_neg h6]
    by_cases h8 : u 8 3 ≤ u 7 3
    · rw [if_pos h8]
      by_cases e7 : c = 7
      · subst e7; rw [st2_s, if_pos rfl]
      · rw [st2_n e7, if_neg e7]
        by_cases e6 : c = 6
        · subst e6; rw [st2_s, if_pos ⟨Or.inl rfl, h6⟩]
        · rw [st2_n e6, if_neg]
          rintro ⟨rfl | rfl | rfl, h⟩
          · exact e6 rfl
          · exact e7 rfl
          · exact h h8
    · rw [if_neg h8]
      by_cases e8 : c = 8
      · subst e8; rw [st2_s, if_neg (by decide), if_pos ⟨Or.inr (Or.inr rfl), h8⟩]
      · rw [st2_n e8]
        by_cases e7 : c = 7
        · subst e7; rw [st2_s, if_pos rfl]
        · rw [st2_n e7, if_neg e7]
          by_cases e6 : c = 6
          · subst e6; rw [st2_s, if_pos ⟨Or.inl rfl, h6⟩]
          · rw [st2_n e6, if_neg]
            rintro ⟨rfl | rfl | rfl, h⟩
            · exact e6 rfl
            · exact e7 rfl
            · exact e8 rfl
theorem leave_2 (u : CS) : m_X0_leaveRow_2_u u = leaveG 2 u := by
  funext c
  have hr := Int32.le_refl (u 8 3)
  rw [m_X0_leaveRow_2_u, if_pos hr, if_pos hr, if_pos hr, if_pos hr]
  unfold leaveG
  by_cases h6 : u 6 3 ≤ u 8 3
  · rw [if_pos h6]
    by_cases h7 : u 7 3 ≤ u 8 3
    · rw [if_pos h7]
      by_cases e8 : c = 8
      · subst e8; rw [st2_s, if_pos rfl]
      · rw [st2_n e8, if_neg e8, if_neg]
        rintro ⟨rfl | rfl | rfl, h⟩
        · exact h h6
        · exact h h7
        · exact e8 rfl
    · rw [if_neg h7]
      by_cases e8 : c = 8
      · subst e8; rw [st2_s, if_pos rfl]
      · rw [st2_n e8, if_neg e8]
        by_cases e7 : c = 7
        · subst e7; rw [st2_s, if_pos ⟨Or.inr (Or.inl rfl), h7⟩]
        · rw [st2_n e7, if_neg]
          rintro ⟨rfl | rfl | rfl, h⟩
          · exact h h6
          · exact e7 rfl
          · exact e8 rfl
  · rw [if_neg h6]
    by_cases h7 : u 7 3 ≤ u 8 3
    · rw [if_pos h7]
      by_cases e8 : c = 8
      · subst e8; rw [st2_s, if_pos rfl]
      · rw [st2_n e8, if_neg e8]
        by_cases e6 : c = 6
        · subst e6; rw [st2_s, if_pos ⟨Or.inl rfl, h6⟩]
        · rw [st2_n e6, if_neg]
          rintro ⟨rfl | rfl | rfl, h⟩
          · exact e6 rfl
          · exact h h7
          · exact e8 rfl
    · rw [if_neg h7]
      by_cases e8 : c = 8
      · subst e8; rw [st2_s, if_pos rfl]
      · rw [st2_n e8, if_neg e8]
        by_cases e7 : c = 7
        · subst e7; rw [st2_s, if_pos ⟨Or.inr (Or.inl rfl), h7⟩]
        · rw [st2_n e7]
          by_cases e6 : c = 6
          · subst e6; rw [st2_s, if_pos ⟨Or.inl rfl, h6⟩]
          · rw [st2_n e6, if_neg]
            rintro ⟨rfl | rfl | rfl, h⟩
            · exact e6 rfl
            · exact e7 rfl
            · exact e8 rfl
theorem leave_hd {q : Nat} {u : CS} : ∀ c, c < 6 → leaveG q u c = u c := by
  intro c hc
  unfold leaveG
  rw [if_neg (by omega), if_neg]
  rintro ⟨rfl | rfl | rfl, -⟩ <;> omega
theorem leave_q {q : Nat} {u : CS} : ∀ p, p < 3 → ∀ i, i ≠ 3 → leaveG q u (6 + p) i = u (6 + p) i := by
  intro p hp i hi
  unfold leaveG
  split
  · exact pk_un hi
  · split
    · exact pk_un hi
    · rfl
theorem leave_row {q : Nat} {u : CS} {rest : List Nat} (hq : q < 3) (hn : (q :: rest).Nodup) (h3 : ∀ x ∈ q :: rest, x < 3) (h : SR u (q :: rest)) : SR (leaveG q u) rest := by
  have hl := row_le hn h3
  simp only [List.length_cons] at hl
  have hq0 : u (6 + q) 3 = nI 0 := by
    rcases h q hq with ⟨h1, -⟩ | ⟨i, h1, h2⟩
    · exact absurd List.mem_cons_self h1
    · have := (List.getElem?_inj (i := 0) (j := i) (by simp) hn).mp (by rw [h1]; rfl)
      rw [h2, ← this]
  have hnq := (List.nodup_cons.mp hn).1
  intro p hp
  by_cases e : p = q
  · subst e
    refine Or.inl ⟨hnq, ?_⟩
    unfold leaveG
    rw [if_pos rfl]
    exact pk_us
  · unfold leaveG
    rw [if_neg (by omega), hq0]
    rcases h p hp with ⟨h1, h2⟩ | ⟨i, h1, h2⟩
    · refine Or.inl ⟨fun hm => h1 (List.mem_cons_of_mem _ hm), ?_⟩
      rw [if_neg, h2]
      rintro ⟨-, hle⟩
      exact hle (by rw [h2]; decide +kernel)
    · have hi := (List.getElem?_eq_some_iff.mp h1).1
      simp only [List.length_cons] at hi
      cases i with
      | zero => simp at h1; exact absurd h1.symm e
      | succ i =>
        refine Or.inr ⟨i, by simpa using h1, ?_⟩
        rw [if_pos, pk_us, h2, pk_sub (by omega), Nat.add_sub_cancel]
        refine ⟨by omega, ?_⟩
        rw [h2, nI_leI (by omega) (by decide)]
        omega
