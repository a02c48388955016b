/-! Copies, and the empty card of a test -/
theorem gq_13 {w : Nat} (hw : w < 10) : gq w < 13 := by
  unfold gq
  split
  · omega
  · split <;> omega
theorem SIM_ceq {v w : CS} {f g : Nat → Int32} (h : SIM v f) (h2 : w 0 2 = v 0 2) (h3 : w 0 3 = v 0 3) (h1 : ∀ j, j < 4 → w 1 j = v 1 j) (hfr : ∀ c, 2 ≤ c → c < 6 → ∀ i, i < cn v → w c i = v c i) (hq : ∀ q, q < 3 → ∀ i, i < 13 → w (6 + q) i = v (6 + q) i) (hg : ∀ k, k < 1640 → g k = f k) : SIM w g := by
  obtain ⟨⟨hM, e4, e5, hS, hF, hQ⟩, hw, row, hI, hR⟩ := h
  have hc := hM.2.1
  have h5c : tn (f 5) = cn v := by rw [← e5]
  have hcn : cn w = cn v := by show tn (w 0 3) = tn (v 0 3); rw [h3]
  have ha : ∀ i, i < 400 → ∀ k, k < 4 → m_X5_frameAt_r g i k = m_X5_frameAt_r f i k := fun i hi k hk => hg _ (by omega)
  have hi : ∀ p k, k < tn (f 5) → m_X5_isInRing_r g k p = m_X5_isInRing_r f k p := fun p k hk => isin_eq (fun j hj => ha k (by omega) j hj)
  have hl := hI.le
  refine ⟨⟨?_, by rw [h2, e4, hg 4 (by decide)], by rw [h3, e5, hg 5 (by decide)], fun j hj => by rw [h1 j hj, hS j hj, hg j (by omega)], fun i hi2 => ?_, fun p hp => ?_⟩, ?_, row, ?_, ?_⟩
  · unfold CM
    rw [hcn, h3, h1 1 (by decide)]
    exact hM
  · rw [hcn] at hi2
    obtain ⟨a0, a1, a2, a3, a4, a5⟩ := hF i hi2
    unfold FRM
    rw [hfr 2 (by decide) (by decide) i hi2, hfr 3 (by decide) (by decide) i hi2, hfr 4 (by decide) (by decide) i hi2, hfr 5 (by decide) (by decide) i hi2, ha i (by omega) 0 (by decide), ha i (by omega) 1 (by decide), ha i (by omega) 2 (by decide), ha i (by omega) 3 (by decide)]
    exact ⟨a0, a1, a2, a3, a4, a5⟩
  · obtain ⟨b0, b1, b2, b3⟩ := hQ p hp
    unfold SQ
    rw [ring_eq (hg 5 (by decide)) (hi p), oldest_eq (hg 5 (by decide)) (hi p), hq p hp 5 (by decide), hq p hp 6 (by decide), hq p hp 4 (by decide)]
    refine ⟨fun k hk => ?_, b1, b2, b3⟩
    rw [hq p hp _ (gq_13 hk), b0 k hk]
    exact (hg _ (by omega)).symm
  · unfold WF
    rw [hg 5 (by decide), hg 6 (by decide), hg 1 (by decide)]
    exact ⟨hw.1, hw.2.1, hw.2.2.1, fun j hj => by rw [hg _ (by omega)]; exact hw.2.2.2 j hj⟩
  · refine ⟨(hg 6 (by decide)).trans hI.1, fun i x hx => ?_, hI.2.2⟩
    have := (List.getElem?_eq_some_iff.mp hx).1
    exact (hg _ (by omega)).trans (hI.2.1 i x hx)
  · exact SR_cong hR (fun q hq3 => hq q hq3 3 (by decide))
theorem SIM_g {v : CS} {f g : Nat → Int32} (h : SIM v f) (hg : ∀ k, k < 1640 → g k = f k) : SIM v g := SIM_ceq h rfl rfl (fun _ _ => rfl) (fun _ _ _ _ _ => rfl) (fun _ _ _ _ => rfl) hg
theorem ST_g {f g : Nat → Int32} (h : ST f) (hg : ∀ k, k < 1640 → g k = f k) : ST g := ST_cong h (fun j hj => hg j (by omega)) (fun q hq => ⟨hg _ (by omega), hg _ (by omega)⟩)
theorem cpq {q o : Nat → Int32} : ∀ i, i < 13 → m_X3_copyFrom_q q o i = o i := by
  intro i hi
  rcases (by omega : i = 0 ∨ i = 1 ∨ i = 2 ∨ i = 3 ∨ i = 4 ∨ i = 5 ∨ i = 6 ∨ i = 7 ∨ i = 8 ∨ i = 9 ∨ i = 10 ∨ i = 11 ∨ i = 12) with rfl | rfl | rfl | rfl | rfl | rfl | rfl | rfl | rfl | rfl | rfl | rfl | rfl <;> rfl
theorem cpy0 {f g : Nat → Int32} {n i : Nat} (h : i < n) : va_cpy f g 0 0 n i = f i := by
  rw [pk_cpy_in (by omega) (by omega)]
  congr 1
  omega
theorem SIM_copy {u v : CS} {f : Nat → Int32} (h : SIM v f) : SIM (m_X0_copyFrom_u u v) f := by
  have hM := h.1.1
  refine SIM_ceq h rfl (show nI (cn v) = v 0 3 from hM.1.symm) (fun j hj => ?_) (fun c h2 h6 i hi => ?_) (fun q hq i hi => ?_) (fun _ _ => rfl)
  · show va_cpy (v 1) (u 1) 0 0 4 j = v 1 j
    exact cpy0 hj
  · rcases (by omega : c = 2 ∨ c = 3 ∨ c = 4 ∨ c = 5) with rfl | rfl | rfl | rfl
    · show va_cpy (v 2) (u 2) 0 0 (cn v) i = v 2 i
      exact cpy0 hi
    · show va_cpy (v 3) (u 3) 0 0 (cn v) i = v 3 i
      exact cpy0 hi
    · show va_cpy (v 4) (u 4) 0 0 (cn v) i = v 4 i
      exact cpy0 hi
    · show va_cpy (v 5) (u 5) 0 0 (cn v) i = v 5 i
      exact cpy0 hi
  · rcases (by omega : q = 0 ∨ q = 1 ∨ q = 2) with rfl | rfl | rfl
    · show m_X3_copyFrom_q (u 6) (v 6) i = v 6 i
      exact cpq i hi
    · show m_X3_copyFrom_q (u 7) (v 7) i = v 7 i
      exact cpq i hi
    · show m_X3_copyFrom_q (u 8) (v 8) i = v 8 i
      exact cpq i hi
theorem SIM.okc {u : CS} {f : Nat → Int32} (h : SIM u f) : OKC u := ⟨h.1.1, (h.1.2.2.2.2.2 0 (by decide)).2.2.2, (h.1.2.2.2.2.2 1 (by decide)).2.2.2, (h.1.2.2.2.2.2 2 (by decide)).2.2.2⟩
/-! the empty card -/
def empQ (q : Nat) (f : Nat → Int32) : Nat → Int32 := m_X5_lays_f (m_X5_lays_f (m_X5_lays_f (m_X5_lays_f (m_X5_lays_f (m_X5_lays_f (m_X5_lays_f (m_X5_lays_f (m_X5_lays_f f q 3 (nI 0)) q 4 (nI 0)) q 5 (nI 0)) q 6 (nI 0)) q 7 (nI 0)) q 8 (nI 0)) q 9 (nI 0)) q 2 (m_X5_get_r (m_X5_lays_f (m_X5_lays_f (m_X5_lays_f (m_X5_lays_f (m_X5_lays_f (m_X5_lays_f (m_X5_lays_f f q 3 (nI 0)) q 4 (nI 0)) q 5 (nI 0)) q 6 (nI 0)) q 7 (nI 0)) q 8 (nI 0)) q 9 (nI 0)) q 0)) q 8 (-6)
theorem emp_eq (f : Nat → Int32) : m_X5_empties_f f = upd (upd (upd (empQ 2 (empQ 1 (empQ 0 f))) 4 (nI 0)) 5 (nI 0)) 6 (nI 0) := rfl
theorem empQ_hd {f : Nat → Int32} {q : Nat} : ∀ j, j < 10 → empQ q f j = f j := fun j hj => AG_lays (AG_lays (AG_lays (AG_lays (AG_lays (AG_lays (AG_lays (AG_lays (AG_lays (AG.rf f))))))))) j hj
theorem empQ_n {f : Nat → Int32} {p q w : Nat} (hn : p ≠ q) (hw : w < 10) : m_X5_get_r (empQ q f) p w = m_X5_get_r f p w := by
  unfold empQ
  rw [g_lays_q hn (by decide) hw, g_lays_q hn (by decide) hw, g_lays_q hn (by decide) hw, g_lays_q hn (by decide) hw, g_lays_q hn (by decide) hw, g_lays_q hn (by decide) hw, g_lays_q hn (by decide) hw, g_lays_q hn (by decide) hw, g_lays_q hn (by decide) hw]
def empV (f : Nat → Int32) (q w : Nat) : Int32 := if w = 0 then m_X5_get_r f q 0 else if w = 1 then m_X5_get_r f q 1 else if w = 2 then m_X5_get_r f q 0 else if w = 8 then (-6) else nI 0
theorem empQ_s {f : Nat → Int32} {q : Nat} : ∀ w, w < 10 → m_X5_get_r (empQ q f) q w = empV f q w := by
  have key : ∀ x : Int32, x = m_X5_get_r f q 0 → ∀ w, w < 10 → m_X5_get_r (m_X5_lays_f (m_X5_lays_f (m_X5_lays_f (m_X5_lays_f (m_X5_lays_f (m_X5_lays_f (m_X5_lays_f (m_X5_lays_f (m_X5_lays_f f q 3 (nI 0)) q 4 (nI 0)) q 5 (nI 0)) q 6 (nI 0)) q 7 (nI 0)) q 8 (nI 0)) q 9 (nI 0)) q 2 x) q 8 (-6)) q w = empV f q w := by
    intro x hx
    refine lt10 ?_ ?_ ?_ ?_ ?_ ?_ ?_ ?_ ?_ ?_
    · rw [g_lays_w (by decide), g_lays_w (by decide), g_lays_w (by decide), g_lays_w (by decide), g_lays_w (by decide), g_lays_w (by decide), g_lays_w (by decide), g_lays_w (by decide), g_lays_w (by decide)]; rfl
    · rw [g_lays_w (by decide), g_lays_w (by decide), g_lays_w (by decide), g_lays_w (by decide), g_lays_w (by decide), g_lays_w (by decide), g_lays_w (by decide), g_lays_w (by decide), g_lays_w (by decide)]; rfl
    · rw [g_lays_w (by decide), g_lays_s, hx]; rfl
    · rw [g_lays_w (by decide), g_lays_w (by decide), g_lays_w (by decide), g_lays_w (by decide), g_lays_w (by decide), g_lays_w (by decide), g_lays_w (by decide), g_lays_w (by decide), g_lays_s]; rfl
    · rw [g_lays_w (by decide), g_lays_w (by decide), g_lays_w (by decide), g_lays_w (by decide), g_lays_w (by decide), g_lays_w (by decide), g_lays_w (by decide), g_lays_s]; rfl
    · rw [g_lays_w (by decide), g_lays_w (by decide), g_lays_w (by decide), g_lays_w (by decide), g_lays_w (by decide), g_lays_w (by decide), g_lays_s]; rfl
    · rw [g_lays_w (by decide), g_lays_w (by decide), g_lays_w (by decide), g_lays_w (by decide), g_lays_w (by decide), g_lays_s]; rfl
    · rw [g_lays_w (by decide), g_lays_w (by decide), g_lays_w (by decide), g_lays_w (by decide), g_lays_s]; rfl
    · rw [g_lays_s]; rfl
    · rw [g_lays_w (by decide), g_lays_w (by decide), g_lays_s]; rfl
  refine key _ ?_
  rw [g_lays_w (by decide), g_lays_w (by decide), g_lays_w (by decide), g_lays_w (by decide), g_lays_w (by decide), g_lays_w (by decide), g_lays_w (by decide)]
theorem emp_g {f : Nat → Int32} {q : Nat} (hq : q < 3) : ∀ w, w < 10 → m_X5_get_r (m_X5_empties_f f) q w = empV f q w := by
  intro w hw
  rw [emp_eq, g_hd (by decide), g_hd (by decide), g_hd (by decide)]
  have e : ∀ g : Nat → Int32, m_X5_get_r g q 0 = m_X5_get_r f q 0 → m_X5_get_r g q 1 = m_X5_get_r f q 1 → empV g q w = empV f q w := by
    intro g h0 h1
    unfold empV
    rw [h0, h1]
  rcases (by omega : q = 0 ∨ q = 1 ∨ q = 2) with rfl | rfl | rfl
  · rw [empQ_n (by decide) hw, empQ_n (by decide) hw, empQ_s w hw]
  · rw [empQ_n (by decide) hw, empQ_s w hw]
    exact e _ (empQ_n (by decide) (by decide)) (empQ_n (by decide) (by decide))
  · rw [empQ_s w hw]
    exact e _ ((empQ_n (by decide) (by decide)).trans (empQ_n (by decide) (by decide))) ((empQ_n (by decide) (by decide)).trans (empQ_n (by decide) (by decide)))
theorem emp_hd {f : Nat → Int32} {j : Nat} (hj : j < 4 ∨ 7 ≤ j) (h10 : j < 10) : m_X5_empties_f f j = f j := by
  rw [emp_eq, pk_un (by omega), pk_un (by omega), pk_un (by omega), empQ_hd j h10, empQ_hd j h10, empQ_hd j h10]
theorem emp_z {f : Nat → Int32} : m_X5_empties_f f 4 = nI 0 ∧ m_X5_empties_f f 5 = nI 0 ∧ m_X5_empties_f f 6 = nI 0 := ⟨rfl, rfl, rfl⟩
theorem elq {q o : Nat → Int32} {f : Nat → Int32} {j : Nat} (h0 : o 0 = m_X5_get_r f j 0) (h1 : o 1 = m_X5_get_r f j 1) : ∀ w, w < 10 → m_X3_emptyLike_q q o (gq w) = empV f j w := lt10 h0 h1 h0 rfl rfl rfl rfl rfl rfl rfl
theorem SIM_empty {p v : CS} {f : Nat → Int32} (h : SIM v f) : SIM (m_X0_emptyLike_u p v) (m_X5_empties_f f) := by
  obtain ⟨⟨hM, e4, e5, hS, hF, hQ⟩, hw, -⟩ := h
  obtain ⟨z4, z5, z6⟩ := emp_z (f := f)
  have hcn : cn (m_X0_emptyLike_u p v) = 0 := by
    show tn (nI 0) = 0
    exact tn_of rfl (by decide)
  have e0 : tn (nI 0) = 0 := tn_of rfl (by decide)
  have hring : ∀ q, m_X5_ring_r (m_X5_empties_f f) q = nI 0 := fun q => by
    unfold m_X5_ring_r
    rw [z5, e0]
    rfl
  have hold : ∀ q, m_X5_oldest_r (m_X5_empties_f f) q = (-6) := fun q => by
    unfold m_X5_oldest_r
    rw [z5, e0]
    rfl
  refine ⟨⟨CM_X0_emptyLike hM, rfl, rfl, fun j hj => ?_, fun i hi => ?_, fun q hq => ?_⟩, ?_, [], ⟨z6, fun i x hx => by simp at hx, List.nodup_nil, fun x hx => by simp at hx⟩, fun q hq => Or.inl ⟨by simp, ?_⟩⟩
  · rw [emp_hd (Or.inl hj) (by omega), ← hS j hj]
    show va_cpy (v 1) (p 1) 0 0 4 j = v 1 j
    exact cpy0 hj
  · rw [hcn] at hi
    exact absurd hi (Nat.not_lt_zero i)
  · unfold SQ
    rw [hring, hold]
    have b0 := (hQ q hq).1 0 (by decide)
    have b1 := (hQ q hq).1 1 (by decide)
    rcases (by omega : q = 0 ∨ q = 1 ∨ q = 2) with rfl | rfl | rfl
    · exact ⟨fun w hw => by rw [emp_g hq w hw]; exact elq b0 b1 w hw, rfl, rfl, Or.inl rfl⟩
    · exact ⟨fun w hw => by rw [emp_g hq w hw]; exact elq b0 b1 w hw, rfl, rfl, Or.inl rfl⟩
    · exact ⟨fun w hw => by rw [emp_g hq w hw]; exact elq b0 b1 w hw, rfl, rfl, Or.inl rfl⟩
  · unfold WF
    rw [z5, z6, emp_hd (j := 1) (Or.inl (by decide)) (by decide), e0]
    exact ⟨⟨rfl, by decide⟩, ⟨rfl, by decide⟩, hw.2.2.1, fun j hj => by rw [emp_hd (Or.inr (by omega)) (by omega)]; exact hw.2.2.2 j hj⟩
  · rcases (by omega : q = 0 ∨ q = 1 ∨ q = 2) with rfl | rfl | rfl <;> rfl
theorem ST_empty {f : Nat → Int32} (h : ST f) : ST (m_X5_empties_f f) := ST_cong h (fun j hj => emp_hd (Or.inl hj) (by omega)) (fun q hq => ⟨emp_g hq 0 (by decide), emp_g hq 1 (by decide)⟩)
