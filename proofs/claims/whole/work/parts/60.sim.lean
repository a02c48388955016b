/-! THE TWO STATES, side by side: a card u, and the row f of the reference -/
theorem st2_s {u : CS} {c : Nat} {f : Nat → Int32} : st2 u c f c = f := if_pos rfl
theorem st2_n {u : CS} {c c' : Nat} {f : Nat → Int32} (h : c' ≠ c) : st2 u c f c' = u c' := if_neg h
/-- the field of a queue that holds what the reference keeps at place w -/
def gq (w : Nat) : Nat := if w < 3 then w else if w = 3 then 4 else w + 3
theorem gq_3 (w : Nat) : gq w ≠ 3 := by
  unfold gq
  split
  · omega
  · split <;> omega
theorem lt10 {P : Nat → Prop} (h0 : P 0) (h1 : P 1) (h2 : P 2) (h3 : P 3) (h4 : P 4) (h5 : P 5) (h6 : P 6) (h7 : P 7) (h8 : P 8) (h9 : P 9) : ∀ w, w < 10 → P w := by
  intro w hw
  rcases (by omega : w = 0 ∨ w = 1 ∨ w = 2 ∨ w = 3 ∨ w = 4 ∨ w = 5 ∨ w = 6 ∨ w = 7 ∨ w = 8 ∨ w = 9) with rfl | rfl | rfl | rfl | rfl | rfl | rfl | rfl | rfl | rfl <;> assumption
def SQ (u : CS) (f : Nat → Int32) (q : Nat) : Prop := (∀ w, w < 10 → u (6 + q) (gq w) = m_X5_get_r f q w) ∧ u (6 + q) 5 = m_X5_ring_r f q ∧ u (6 + q) 6 = m_X5_oldest_r f q ∧ BB (u (6 + q) 4)
def FRM (u : CS) (f : Nat → Int32) (i : Nat) : Prop := u 2 i = m_X5_frameAt_r f i 0 ∧ u 3 i = m_X5_frameAt_r f i 1 ∧ u 4 i = m_X5_frameAt_r f i 2 ∧ (u 4 i = nI 1 → u 5 i - u 3 i = m_X5_frameAt_r f i 3) ∧ (∃ v, v ≤ 99 ∧ u 2 i = nI v) ∧ (u 4 i = nI 0 ∨ u 4 i = nI 1 ∨ u 4 i = nI 2)
def CORE (u : CS) (f : Nat → Int32) : Prop := CM u ∧ u 0 2 = f 4 ∧ u 0 3 = f 5 ∧ (∀ j, j < 4 → u 1 j = f j) ∧ (∀ i, i < cn u → FRM u f i) ∧ (∀ q, q < 3 → SQ u f q)
def SR (u : CS) (row : List Nat) : Prop := ∀ q, q < 3 → (q ∉ row ∧ u (6 + q) 3 = (-1)) ∨ (∃ i, row[i]? = some q ∧ u (6 + q) 3 = nI i)
def SIM (u : CS) (f : Nat → Int32) : Prop := CORE u f ∧ WF f ∧ ∃ row, RI f row ∧ SR u row
theorem SIM.core {u : CS} {f : Nat → Int32} (h : SIM u f) : CORE u f := h.1
theorem SIM.rf {u : CS} {f : Nat → Int32} (h : SIM u f) : RF f := ⟨h.2.1, h.2.2.choose, h.2.2.choose_spec.1⟩
theorem CORE.cn5 {u : CS} {f : Nat → Int32} (h : CORE u f) : tn (f 5) = cn u := by rw [← h.2.2.1]
/-! fields of queues and of frames behind a store -/
theorem g_lays_s {f : Nat → Int32} {q w : Nat} {v : Int32} : m_X5_get_r (m_X5_lays_f f q w v) q w = v := pk_us
theorem g_lays_w {f : Nat → Int32} {q w w' : Nat} {v : Int32} (h : w' ≠ w) : m_X5_get_r (m_X5_lays_f f q w v) q w' = m_X5_get_r f q w' := pk_un (by omega)
theorem g_lays_q {f : Nat → Int32} {q q' w w' : Nat} {v : Int32} (hq : q' ≠ q) (hw : w < 10) (hw' : w' < 10) : m_X5_get_r (m_X5_lays_f f q w v) q' w' = m_X5_get_r f q' w' := pk_un (by omega)
theorem g_more_s {f : Nat → Int32} {q w : Nat} {v : Int32} : m_X5_get_r (m_X5_more_f f q w v) q w = m_X5_get_r f q w + v := pk_us
theorem g_more_w {f : Nat → Int32} {q w w' : Nat} {v : Int32} (h : w' ≠ w) : m_X5_get_r (m_X5_more_f f q w v) q w' = m_X5_get_r f q w' := pk_un (by omega)
theorem g_more_q {f : Nat → Int32} {q q' w w' : Nat} {v : Int32} (hq : q' ≠ q) (hw : w < 10) (hw' : w' < 10) : m_X5_get_r (m_X5_more_f f q w v) q' w' = m_X5_get_r f q' w' := pk_un (by omega)
theorem g_fr {f : Nat → Int32} {q w i : Nat} {v : Int32} (hq : q < 3) (hw : w < 10) (hi : 40 ≤ i) : m_X5_get_r (upd f i v) q w = m_X5_get_r f q w := pk_un (by omega)
theorem g_hd {f : Nat → Int32} {q w i : Nat} {v : Int32} (hi : i < 10) : m_X5_get_r (upd f i v) q w = m_X5_get_r f q w := pk_un (by omega)
theorem a_lays {f : Nat → Int32} {q w i w' : Nat} {v : Int32} (hq : q < 3) (hw : w < 10) : m_X5_frameAt_r (m_X5_lays_f f q w v) i w' = m_X5_frameAt_r f i w' := pk_un (by omega)
theorem a_more {f : Nat → Int32} {q w i w' : Nat} {v : Int32} (hq : q < 3) (hw : w < 10) : m_X5_frameAt_r (m_X5_more_f f q w v) i w' = m_X5_frameAt_r f i w' := pk_un (by omega)
theorem a_hd {f : Nat → Int32} {i w j : Nat} {v : Int32} (hj : j < 40) : m_X5_frameAt_r (upd f j v) i w = m_X5_frameAt_r f i w := pk_un (by omega)
theorem a_up_s {f : Nat → Int32} {i w : Nat} {v : Int32} : m_X5_frameAt_r (upd f (40 + (4 * i) + w) v) i w = v := pk_us
theorem a_up_w {f : Nat → Int32} {i w w' : Nat} {v : Int32} (h : w' ≠ w) : m_X5_frameAt_r (upd f (40 + (4 * i) + w) v) i w' = m_X5_frameAt_r f i w' := pk_un (by omega)
theorem a_up_i {f : Nat → Int32} {i i' w w' : Nat} {v : Int32} (h : i' ≠ i) (hw : w < 4) (hw' : w' < 4) : m_X5_frameAt_r (upd f (40 + (4 * i) + w) v) i' w' = m_X5_frameAt_r f i' w' := pk_un (by omega)
/-! frames in rings: how many, the oldest -/
def AF (n : Nat) (f g : Nat → Int32) : Prop := ∀ i, i < n → ∀ w, w < 4 → m_X5_frameAt_r g i w = m_X5_frameAt_r f i w
theorem isin_eq {f g : Nat → Int32} {i q : Nat} (h : ∀ w, w < 4 → m_X5_frameAt_r g i w = m_X5_frameAt_r f i w) : m_X5_isInRing_r g i q = m_X5_isInRing_r f i q := by
  unfold m_X5_isInRing_r
  rw [h 2 (by decide), h 0 (by decide)]
theorem isin_1 {f : Nat → Int32} {i q : Nat} (h : m_X5_frameAt_r f i 2 = nI 1) : m_X5_isInRing_r f i q = 0 := by
  unfold m_X5_isInRing_r
  rw [h, if_neg (by decide +kernel)]
  rfl
theorem isin_2 {f : Nat → Int32} {i q : Nat} (h : m_X5_frameAt_r f i 2 = nI 2) : m_X5_isInRing_r f i q = 0 := by
  unfold m_X5_isInRing_r
  rw [h, if_neg (by decide +kernel)]
  rfl
theorem isin_t {f : Nat → Int32} {i q : Nat} (h : ¬ m_X5_isInRing_r f i q = 0) : m_X5_frameAt_r f i 2 = 0 ∧ m_X5_frameAt_r f i 0 - m_X5_frameAt_r f i 0 / nI 3 * nI 3 = nI q := by
  unfold m_X5_isInRing_r at h
  by_cases h1 : m_X5_frameAt_r f i 2 = 0
  · rw [if_pos h1] at h
    by_cases h2 : m_X5_frameAt_r f i 0 - m_X5_frameAt_r f i 0 / nI 3 * nI 3 = nI q
    · exact ⟨h1, h2⟩
    · rw [if_neg h2] at h; exact absurd rfl h
  · rw [if_neg h1] at h; exact absurd rfl h
theorem isin_q {f : Nat → Int32} {i q q' : Nat} (hq : q < 3) (hq' : q' < 3) (hn : q' ≠ q) (h : ¬ m_X5_isInRing_r f i q = 0) : m_X5_isInRing_r f i q' = 0 := by
  obtain ⟨h1, h2⟩ := isin_t h
  unfold m_X5_isInRing_r
  rw [if_pos h1, if_neg]
  · rfl
  · rw [h2]
    intro e
    exact hn ((nI_eq (by omega) (by omega)).mp e).symm
theorem ring_ac (f : Nat → Int32) (q : Nat) : ∀ (r i n : Nat), lp_ring f q r i (n + 1) = lp_ring f q r i n + 1 := by
  intro r
  induction r with
  | zero => intro i n; rfl
  | succ r ih =>
    intro i n
    rw [lp_ring, lp_ring]
    split
    · exact ih _ _
    · exact ih _ _
theorem ring_is {f g : Nat → Int32} {q : Nat} : ∀ (r i n : Nat), (∀ k, i ≤ k → k < i + r → m_X5_isInRing_r g k q = m_X5_isInRing_r f k q) → lp_ring g q r i n = lp_ring f q r i n := by
  intro r
  induction r with
  | zero => intro i n _; rfl
  | succ r ih =>
    intro i n h
    rw [lp_ring, lp_ring, h i (by omega) (by omega)]
    split
    · exact ih _ _ (fun k h1 h2 => h k (by omega) (by omega))
    · exact ih _ _ (fun k h1 h2 => h k (by omega) (by omega))
theorem old_is {f g : Nat → Int32} {q : Nat} : ∀ (r i : Nat), (∀ k, i ≤ k → k < i + r → m_X5_isInRing_r g k q = m_X5_isInRing_r f k q) → lp_old g q r i = lp_old f q r i := by
  intro r
  induction r with
  | zero => intro i _; rfl
  | succ r ih =>
    intro i h
    rw [lp_old, lp_old, h i (by omega) (by omega)]
    split
    · exact ih _ (fun k h1 h2 => h k (by omega) (by omega))
    · rfl
theorem ring_eq {f g : Nat → Int32} {q : Nat} (h5 : g 5 = f 5) (h : ∀ k, k < tn (f 5) → m_X5_isInRing_r g k q = m_X5_isInRing_r f k q) : m_X5_ring_r g q = m_X5_ring_r f q := by
  unfold m_X5_ring_r
  rw [h5, ring_is (f := f) (g := g) _ _ _ (fun k _ h2 => h k (by omega))]
theorem oldest_eq {f g : Nat → Int32} {q : Nat} (h5 : g 5 = f 5) (h : ∀ k, k < tn (f 5) → m_X5_isInRing_r g k q = m_X5_isInRing_r f k q) : m_X5_oldest_r g q = m_X5_oldest_r f q := by
  unfold m_X5_oldest_r
  rw [h5, old_is (f := f) (g := g) _ _ (fun k _ h2 => h k (by omega))]
/-- one frame less in the ring -/
theorem ring_1 {f g : Nat → Int32} {q o : Nat} (hk : ∀ k, k ≠ o → m_X5_isInRing_r g k q = m_X5_isInRing_r f k q) (hg : m_X5_isInRing_r g o q = 0) (hf : ¬ m_X5_isInRing_r f o q = 0) : ∀ (r i n : Nat), i ≤ o → o < i + r → lp_ring g q r i n + 1 = lp_ring f q r i n := by
  intro r
  induction r with
  | zero => intro i n h1 h2; omega
  | succ r ih =>
    intro i n h1 h2
    rw [lp_ring, lp_ring]
    by_cases e : i = o
    · subst e
      rw [if_pos hg, if_neg hf, ring_ac, ring_is (f := f) (g := g) r (i + 1) n (fun k h3 _ => hk k (by omega))]
    · rw [hk i e]
      split
      · exact ih _ _ (by omega) (by omega)
      · exact ih _ _ (by omega) (by omega)
theorem old_1 {f g : Nat → Int32} {q o : Nat} (ho : o < 2 ^ 31) (hk : ∀ k, k ≠ o → m_X5_isInRing_r g k q = m_X5_isInRing_r f k q) (hg : m_X5_isInRing_r g o q = 0) : ∀ (r i : Nat), i + r < 2 ^ 31 → lp_old f q r i = nI o → lp_old g q r i = lp_old g q (i + r - (o + 1)) (o + 1) ∧ i ≤ o ∧ o < i + r ∧ ¬ m_X5_isInRing_r f o q = 0 := by
  intro r
  induction r with
  | zero => intro i _ h; exact absurd (show nI o = (-6) from h.symm) (k_neg ho (by decide))
  | succ r ih =>
    intro i hi h
    rw [lp_old] at h
    by_cases e : m_X5_isInRing_r f i q = 0
    · rw [if_pos e] at h
      obtain ⟨h1, h2, h3, h4⟩ := ih (i + 1) (by omega) h
      refine ⟨?_, by omega, by omega, h4⟩
      rw [lp_old, hk i (by omega), if_pos e, h1]
      congr 1
      omega
    · rw [if_neg e] at h
      have e2 := (nI_eq (by omega) ho).mp h
      subst e2
      refine ⟨?_, by omega, by omega, e⟩
      rw [lp_old, if_pos hg]
      congr 1
      omega
theorem srch_old {f how flow : Nat → Int32} {q : Nat} : ∀ (r i : Nat), (∀ k, i ≤ k → k < i + r → how k = m_X5_frameAt_r f k 2 ∧ flow k = m_X5_frameAt_r f k 0) → lp_srch how flow (nI q) r i = lp_old f q r i := by
  intro r
  induction r with
  | zero => intro i _; rfl
  | succ r ih =>
    intro i h
    obtain ⟨h1, h2⟩ := h i (by omega) (by omega)
    have hr := ih (i + 1) (fun k h1 h2 => h k (by omega) (by omega))
    rw [lp_srch, lp_old, h1, h2, hr]
    unfold m_X5_isInRing_r
    by_cases c1 : m_X5_frameAt_r f i 2 = 0
    · rw [if_pos c1, if_pos c1]
      by_cases c2 : m_X5_frameAt_r f i 0 - m_X5_frameAt_r f i 0 / nI 3 * nI 3 = nI q
      · rw [if_pos c2, if_pos c2, if_neg (by decide +kernel)]
      · rw [if_neg c2, if_neg c2, if_pos (show nI 0 = 0 from rfl)]
    · rw [if_neg c1, if_neg c1, if_pos (show nI 0 = 0 from rfl)]
/-- one frame more, at the end -/
theorem ring_sn (f : Nat → Int32) (q : Nat) : ∀ (r i n : Nat), lp_ring f q (r + 1) i n = if m_X5_isInRing_r f (i + r) q = 0 then lp_ring f q r i n else lp_ring f q r i n + 1 := by
  intro r
  induction r with
  | zero =>
    intro i n
    rw [lp_ring]
    rfl
  | succ r ih =>
    intro i n
    have e : i + 1 + r = i + (r + 1) := by omega
    rw [lp_ring, ih, ih, e, lp_ring]
    split
    · rfl
    · rfl
theorem old_sn (f : Nat → Int32) (q : Nat) : ∀ (r i : Nat), i + r < 2 ^ 31 → lp_old f q (r + 1) i = if lp_old f q r i = (-6) then (if m_X5_isInRing_r f (i + r) q = 0 then (-6) else nI (i + r)) else lp_old f q r i := by
  intro r
  induction r with
  | zero =>
    intro i _
    rw [lp_old, lp_old, if_pos rfl]
    rfl
  | succ r ih =>
    intro i hi
    have e : i + 1 + r = i + (r + 1) := by omega
    rw [lp_old, ih (i + 1) (by omega), e, lp_old]
    by_cases c : m_X5_isInRing_r f i q = 0
    · rw [if_pos c, if_pos c]
    · rw [if_neg c, if_neg c, if_neg (k_neg (by omega) (by decide))]
