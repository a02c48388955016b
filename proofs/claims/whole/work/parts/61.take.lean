/-! One frame is taken: on the card, in the row of the reference -/
def takeG (q : Nat) (u : CS) : CS := st2 (st2 (st2 u 4 (m_X0_takeOldest_u4 u (u (6 + q)))) 5 (m_X0_takeOldest_u5 u (u (6 + q)))) (6 + q) (m_X0_takeOldest_q u (u (6 + q)) (nI q))
def tkw (f : Nat → Int32) (o : Nat) : Int32 := f 4 - m_X5_frameAt_r f o 1
theorem max_eq {x y : Int32} : (if x < y then y else x) = (if y ≤ x then x else y) := by
  by_cases h : x < y
  · rw [if_pos h, if_neg (Int32.not_le.mpr h)]
  · rw [if_neg h, if_pos (Int32.not_lt.mp h)]
theorem takes_a {f : Nat → Int32} {o q i w : Nat} (hq : q < 3) (hw : w < 4) : m_X5_frameAt_r (m_X5_takes_f f o q) i w = if i = o then (if w = 2 then nI 1 else if w = 3 then tkw f o else m_X5_frameAt_r f i w) else m_X5_frameAt_r f i w := by
  have key : m_X5_frameAt_r (upd (upd f (40 + (4 * o) + 2) (nI 1)) (40 + (4 * o) + 3) (f 4 - m_X5_frameAt_r f o 1)) i w = if i = o then (if w = 2 then nI 1 else if w = 3 then tkw f o else m_X5_frameAt_r f i w) else m_X5_frameAt_r f i w := by
    by_cases e : i = o
    · subst e
      rw [if_pos rfl]
      by_cases e2 : w = 2
      · subst e2
        rw [if_pos rfl, a_up_w (by decide), a_up_s]
      · rw [if_neg e2]
        by_cases e3 : w = 3
        · subst e3
          rw [if_pos rfl, a_up_s]
          rfl
        · rw [if_neg e3, a_up_w e3, a_up_w e2]
    · rw [if_neg e, a_up_i e (by decide) hw, a_up_i e (by decide) hw]
  rw [m_X5_takes_f]
  split
  · rw [a_lays hq (by decide), a_more hq (by decide), a_more hq (by decide), a_more hq (by decide)]
    exact key
  · rw [a_lays hq (by decide), a_more hq (by decide), a_more hq (by decide), a_more hq (by decide)]
    exact key
theorem takes_o {f : Nat → Int32} {o q q' w : Nat} (hq : q < 3) (hq' : q' < 3) (hn : q' ≠ q) (hw : w < 10) : m_X5_get_r (m_X5_takes_f f o q) q' w = m_X5_get_r f q' w := by
  rw [m_X5_takes_f]
  split
  · rw [g_lays_q hn (by decide) hw, g_more_q hn (by decide) hw, g_more_q hn (by decide) hw, g_more_q hn (by decide) hw, g_fr hq' hw (by omega), g_fr hq' hw (by omega)]
  · rw [g_lays_q hn (by decide) hw, g_more_q hn (by decide) hw, g_more_q hn (by decide) hw, g_more_q hn (by decide) hw, g_fr hq' hw (by omega), g_fr hq' hw (by omega)]
theorem takes_g {f : Nat → Int32} {o q : Nat} (hq : q < 3) : ∀ w, w < 10 → m_X5_get_r (m_X5_takes_f f o q) q w = if w = 5 then m_X5_get_r f q 5 + nI 1 else if w = 9 then m_X5_get_r f q 9 + nI 1 else if w = 7 then m_X5_get_r f q 7 + tkw f o else if w = 8 then (if tkw f o ≤ m_X5_get_r f q 8 then m_X5_get_r f q 8 else tkw f o) else m_X5_get_r f q w := by
  have e8 : m_X5_get_r (m_X5_more_f (m_X5_more_f (m_X5_more_f (upd (upd f (40 + (4 * o) + 2) (nI 1)) (40 + (4 * o) + 3) (f 4 - m_X5_frameAt_r f o 1)) q 5 (nI 1)) q 9 (nI 1)) q 7 (f 4 - m_X5_frameAt_r f o 1)) q 8 = m_X5_get_r f q 8 := by
    rw [g_more_w (by decide), g_more_w (by decide), g_more_w (by decide), g_fr hq (by decide) (by omega), g_fr hq (by decide) (by omega)]
  have ew : f 4 - m_X5_frameAt_r f o 1 = tkw f o := rfl
  intro w hw
  rw [m_X5_takes_f, e8, ew]
  have key : ∀ v : Int32, v = (if tkw f o ≤ m_X5_get_r f q 8 then m_X5_get_r f q 8 else tkw f o) → m_X5_get_r (m_X5_lays_f (m_X5_more_f (m_X5_more_f (m_X5_more_f (upd (upd f (40 + (4 * o) + 2) (nI 1)) (40 + (4 * o) + 3) (tkw f o)) q 5 (nI 1)) q 9 (nI 1)) q 7 (tkw f o)) q 8 v) q w = if w = 5 then m_X5_get_r f q 5 + nI 1 else if w = 9 then m_X5_get_r f q 9 + nI 1 else if w = 7 then m_X5_get_r f q 7 + tkw f o else if w = 8 then (if tkw f o ≤ m_X5_get_r f q 8 then m_X5_get_r f q 8 else tkw f o) else m_X5_get_r f q w := by
    intro v hv
    by_cases e8 : w = 8
    · subst e8
      rw [g_lays_s, hv]
      rfl
    · rw [g_lays_w e8]
      by_cases e7 : w = 7
      · subst e7
        rw [g_more_s, g_more_w (by decide), g_more_w (by decide), g_fr hq (by decide) (by omega), g_fr hq (by decide) (by omega)]
        rfl
      · rw [g_more_w e7]
        by_cases e9 : w = 9
        · subst e9
          rw [g_more_s, g_more_w (by decide), g_fr hq (by decide) (by omega), g_fr hq (by decide) (by omega)]
          rfl
        · rw [g_more_w e9]
          by_cases e5 : w = 5
          · subst e5
            rw [g_more_s, g_fr hq (by decide) (by omega), g_fr hq (by decide) (by omega)]
            rfl
          · rw [g_more_w e5, g_fr hq hw (by omega), g_fr hq hw (by omega), if_neg e5, if_neg e9, if_neg e7, if_neg e8]
  have e : ∀ b : Nat → Int32, (if tkw f o ≤ m_X5_get_r f q 8 then m_X5_lays_f b q 8 (m_X5_get_r f q 8) else m_X5_lays_f b q 8 (tkw f o)) = m_X5_lays_f b q 8 (if tkw f o ≤ m_X5_get_r f q 8 then m_X5_get_r f q 8 else tkw f o) := by
    intro b
    split <;> rfl
  rw [e]
  exact key _ rfl
theorem takes_a0 {f : Nat → Int32} {o q : Nat} (hq : q < 3) : m_X5_frameAt_r (m_X5_takes_f f o q) o 0 = m_X5_frameAt_r f o 0 := by rw [takes_a hq (by decide), if_pos rfl, if_neg (by decide), if_neg (by decide)]
theorem takes_a1 {f : Nat → Int32} {o q : Nat} (hq : q < 3) : m_X5_frameAt_r (m_X5_takes_f f o q) o 1 = m_X5_frameAt_r f o 1 := by rw [takes_a hq (by decide), if_pos rfl, if_neg (by decide), if_neg (by decide)]
theorem takes_a2 {f : Nat → Int32} {o q : Nat} (hq : q < 3) : m_X5_frameAt_r (m_X5_takes_f f o q) o 2 = nI 1 := by rw [takes_a hq (by decide), if_pos rfl, if_pos rfl]
theorem takes_a3 {f : Nat → Int32} {o q : Nat} (hq : q < 3) : m_X5_frameAt_r (m_X5_takes_f f o q) o 3 = tkw f o := by rw [takes_a hq (by decide), if_pos rfl, if_neg (by decide), if_pos rfl]
/-- what a queue notes of a frame taken, its longest wait as one value -/
def noteW (q : Nat → Int32) (t : Int32) : Nat → Int32 := upd (upd (upd (upd (upd q 5 (q 5 - nI 1)) 8 (q 8 + nI 1)) 12 (q 12 + nI 1)) 10 (q 10 + t)) 11 (if q 11 < t then t else q 11)
theorem note_eq (q : Nat → Int32) (t : Int32) : m_X3_noteTaken_q q t = noteW q t := by
  unfold m_X3_noteTaken_q noteW
  rw [max_eq]
  by_cases h : t ≤ q 11
  · rw [if_pos h, if_pos h]
  · rw [if_neg h, if_neg h]
theorem CORE_take {u : CS} {f : Nat → Int32} {q o : Nat} (hq : q < 3) (h : CORE u f) (ho : m_X5_oldest_r f q = nI o) (hoc : o < cn u) : CORE (takeG q u) (m_X5_takes_f f o q) := by
  obtain ⟨hM, h4, h5, hS, hF, hQ⟩ := h
  have hc := hM.2.1
  have ag : AG f (m_X5_takes_f f o q) := AG_takes
  have q6 : u (6 + q) 6 = nI o := (hQ q hq).2.2.1.trans ho
  have et : tn (u (6 + q) 6) = o := tn_of q6 (by omega)
  have v0 : takeG q u 0 = u 0 := by unfold takeG; rw [st2_n (by omega), st2_n (by decide), st2_n (by decide)]
  have v1 : takeG q u 1 = u 1 := by unfold takeG; rw [st2_n (by omega), st2_n (by decide), st2_n (by decide)]
  have v2 : takeG q u 2 = u 2 := by unfold takeG; rw [st2_n (by omega), st2_n (by decide), st2_n (by decide)]
  have v3 : takeG q u 3 = u 3 := by unfold takeG; rw [st2_n (by omega), st2_n (by decide), st2_n (by decide)]
  have v4 : takeG q u 4 = upd (u 4) o (nI 1) := by unfold takeG; rw [st2_n (by omega), st2_n (by decide), st2_s, m_X0_takeOldest_u4, et]
  have v5 : takeG q u 5 = upd (u 5) o (u 0 2) := by unfold takeG; rw [st2_n (by omega), st2_s, m_X0_takeOldest_u5, et]
  have vq : takeG q u (6 + q) = m_X0_takeOldest_q u (u (6 + q)) (nI q) := by unfold takeG; rw [st2_s]
  have vo : ∀ c, c ≠ 4 → c ≠ 5 → c ≠ 6 + q → takeG q u c = u c := fun c a b d => by unfold takeG; rw [st2_n d, st2_n b, st2_n a]
  have hcn : cn (takeG q u) = cn u := by show tn (takeG q u 0 3) = tn (u 0 3); rw [v0]
  have hM2 : CM (takeG q u) := CM_of hM v0 v1
  have e5 : m_X5_takes_f f o q 5 = f 5 := ag 5 (by decide)
  have hFo := hF o hoc
  have eW : u 0 2 - u 3 o = tkw f o := by rw [h4, hFo.2.1]; rfl
  have hio : m_X5_frameAt_r (m_X5_takes_f f o q) o 2 = nI 1 := takes_a2 hq
  have hk : ∀ p k, k ≠ o → m_X5_isInRing_r (m_X5_takes_f f o q) k p = m_X5_isInRing_r f k p := fun p k hk => isin_eq (fun w hw => by rw [takes_a hq hw, if_neg hk])
  have h5c : tn (f 5) = cn u := by rw [← h5]
  have hold : lp_old f q (cn u) 0 = nI o := by
    have := ho
    unfold m_X5_oldest_r at this
    rw [h5c] at this
    exact this
  obtain ⟨o1, -, -, o4⟩ := old_1 (g := m_X5_takes_f f o q) (by omega) (hk q) (isin_1 hio) (cn u) 0 (by omega) hold
  refine ⟨hM2, by rw [v0, h4, ag 4 (by decide)], by rw [v0, h5, e5], fun j hj => by rw [v1, hS j hj, ag j (by omega)], fun i hi => ?_, fun p hp => ?_⟩
  · rw [hcn] at hi
    obtain ⟨a0, a1, a2, a3, a4, a5⟩ := hF i hi
    unfold FRM
    rw [v2, v3, v4, v5]
    by_cases e : i = o
    · subst e
      rw [takes_a0 hq, takes_a1 hq, takes_a2 hq, takes_a3 hq, pk_us, pk_us]
      exact ⟨a0, a1, rfl, fun _ => eW, a4, Or.inr (Or.inl rfl)⟩
    · rw [takes_a hq (by decide), takes_a hq (by decide), takes_a hq (by decide), takes_a hq (by decide), if_neg e, if_neg e, if_neg e, if_neg e, pk_un e, pk_un e]
      exact ⟨a0, a1, a2, a3, a4, a5⟩
  · by_cases e : p = q
    · subst e
      obtain ⟨b0, b1, b2, b3⟩ := hQ p hp
      have T : ∀ i, m_X0_takeOldest_q u (u (6 + p)) (nI p) i = upd (noteW (u (6 + p)) (tkw f o)) 6 (lp_srch (upd (u 4) o (nI 1)) (u 2) (nI p) (cn u - (o + 1)) (o + 1)) i := fun i => by rw [m_X0_takeOldest_q, et, eW, note_eq]
      refine ⟨?_, ?_, ?_, ?_⟩
      · have tg := takes_g (f := f) (o := o) hp
        refine lt10 ?_ ?_ ?_ ?_ ?_ ?_ ?_ ?_ ?_ ?_
        · rw [vq, T, tg 0 (by decide)]; exact b0 0 (by decide)
        · rw [vq, T, tg 1 (by decide)]; exact b0 1 (by decide)
        · rw [vq, T, tg 2 (by decide)]; exact b0 2 (by decide)
        · rw [vq, T, tg 3 (by decide)]; exact b0 3 (by decide)
        · rw [vq, T, tg 4 (by decide)]; exact b0 4 (by decide)
        · rw [vq, T, tg 5 (by decide)]; exact congrArg (· + nI 1) (b0 5 (by decide))
        · rw [vq, T, tg 6 (by decide)]; exact b0 6 (by decide)
        · rw [vq, T, tg 7 (by decide)]; exact congrArg (· + tkw f o) (b0 7 (by decide))
        · have h8 : u (6 + p) 11 = m_X5_get_r f p 8 := b0 8 (by decide)
          rw [vq, T, tg 8 (by decide)]
          show (if u (6 + p) 11 < tkw f o then tkw f o else u (6 + p) 11) = if tkw f o ≤ m_X5_get_r f p 8 then m_X5_get_r f p 8 else tkw f o
          rw [max_eq, h8]
        · rw [vq, T, tg 9 (by decide)]; exact congrArg (· + nI 1) (b0 9 (by decide))
      · have hr : lp_ring (m_X5_takes_f f o p) p (cn u) 0 0 + 1 = lp_ring f p (cn u) 0 0 := ring_1 (hk p) (isin_1 hio) o4 _ _ _ (by omega) (by omega)
        have e1 : m_X5_ring_r f p = nI (lp_ring f p (cn u) 0 0) := by unfold m_X5_ring_r; rw [h5c]
        have e2 : m_X5_ring_r (m_X5_takes_f f o p) p = nI (lp_ring (m_X5_takes_f f o p) p (cn u) 0 0) := by unfold m_X5_ring_r; rw [e5, h5c]
        rw [vq, T, e2]
        show u (6 + p) 5 - nI 1 = _
        rw [b1, e1, ← hr, pk_sub (by omega), Nat.add_sub_cancel]
      · have e2 : m_X5_oldest_r (m_X5_takes_f f o p) p = lp_old (m_X5_takes_f f o p) p (cn u) 0 := by unfold m_X5_oldest_r; rw [e5, h5c]
        rw [vq, T, e2, o1]
        have e3 : 0 + cn u - (o + 1) = cn u - (o + 1) := by omega
        rw [e3]
        show lp_srch (upd (u 4) o (nI 1)) (u 2) (nI p) (cn u - (o + 1)) (o + 1) = _
        refine srch_old _ _ (fun k h1 h2 => ?_)
        have hko : k ≠ o := by omega
        obtain ⟨a0, a1, a2, -⟩ := hF k (by omega)
        rw [pk_un hko, takes_a hp (by decide), takes_a hp (by decide), if_neg hko, if_neg hko]
        exact ⟨a2, a0⟩
      · rw [vq, T]
        exact b3
    · obtain ⟨b0, b1, b2, b3⟩ := hQ p hp
      have hi : ∀ k, m_X5_isInRing_r (m_X5_takes_f f o q) k p = m_X5_isInRing_r f k p := by
        intro k
        by_cases ek : k = o
        · subst ek
          rw [isin_1 hio, isin_q hq hp e o4]
        · exact hk p k ek
      unfold SQ
      rw [vo (6 + p) (by omega) (by omega) (by omega), ring_eq e5 (fun k _ => hi k), oldest_eq e5 (fun k _ => hi k)]
      exact ⟨fun w hw => by rw [takes_o hq hp e hw]; exact b0 w hw, b1, b2, b3⟩
