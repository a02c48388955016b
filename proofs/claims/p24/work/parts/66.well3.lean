/-! All stays well: a frame that comes, bounds, masks, calls by hand, settings, copies, the start -/
theorem recv_c {j : Nat} {u : CS} {x s : Int32} {Q : Nat → Int32} {c : Nat} (h0 : c ≠ 0) (h2 : c ≠ 2) (h3 : c ≠ 3) (h4 : c ≠ 4) (hq : c ≠ 6 + j) : recvG j u x s Q c = u c := by
  unfold recvG
  rw [st2_n hq, st2_n h4, st2_n h3, st2_n h2, st2_n h0]
theorem recv_0 {j : Nat} {u : CS} {x s : Int32} {Q : Nat → Int32} : recvG j u x s Q 0 = upd (u 0) 3 (nI (cn u + 1)) := by
  unfold recvG
  rw [st2_n (by omega), st2_n (by decide), st2_n (by decide), st2_n (by decide), st2_s]
theorem recv_2 {j : Nat} {u : CS} {x s : Int32} {Q : Nat → Int32} : recvG j u x s Q 2 = upd (u 2) (cn u) x := by
  unfold recvG
  rw [st2_n (by omega), st2_n (by decide), st2_n (by decide), st2_s]
theorem recv_3 {j : Nat} {u : CS} {x s : Int32} {Q : Nat → Int32} : recvG j u x s Q 3 = upd (u 3) (cn u) (u 0 2) := by
  unfold recvG
  rw [st2_n (by omega), st2_n (by decide), st2_s]
theorem recv_4 {j : Nat} {u : CS} {x s : Int32} {Q : Nat → Int32} : recvG j u x s Q 4 = upd (u 4) (cn u) s := by
  unfold recvG
  rw [st2_n (by omega), st2_s]
theorem recv_q {j : Nat} {u : CS} {x s : Int32} {Q : Nat → Int32} : recvG j u x s Q (6 + j) = Q := by
  unfold recvG
  rw [st2_s]
/-- a frame more, of the queue j, in a ring (t is 0) or dropped (t is 2) -/
theorem WL_recvG {u : CS} {T f j t : Nat} {Q : Nat → Int32} (hj : j < 3) (h : WL u T) (hf : f ≤ 99) (hfj : f % 3 = j) (hc : cn u < 400) (ht : t = 0 ∨ t = 2)
    (e : ∀ i, i ≠ 5 → i ≠ 6 → i ≠ 9 → Q i = u (6 + j) i) (e5 : Q 5 = nI (nS u j (nI 0) (cn u) + if t = 0 then 1 else 0)) (e9 : Q 9 = nI (nS u j (nI 2) (cn u) + if t = 2 then 1 else 0)) (e6 : Q 6 = if t = 0 ∧ u (6 + j) 6 = (-6) then nI (cn u) else u (6 + j) 6) :
    WL (recvG j u (nI f) (nI t) Q) T ∧ cn (recvG j u (nI f) (nI t) Q) = cn u + 1 ∧ ∀ p, p < 3 → ∀ s, s < 3 → nS (recvG j u (nI f) (nI t) Q) p (nI s) (cn u + 1) = nS u p (nI s) (cn u) + (if t = s ∧ j = p then 1 else 0) := by
  obtain ⟨u', hu'⟩ : ∃ u', recvG j u (nI f) (nI t) Q = u' := ⟨_, rfl⟩
  rw [hu']
  have v0 : u' 0 = upd (u 0) 3 (nI (cn u + 1)) := by rw [← hu']; exact recv_0
  have v2 : u' 2 = upd (u 2) (cn u) (nI f) := by rw [← hu']; exact recv_2
  have v3 : u' 3 = upd (u 3) (cn u) (u 0 2) := by rw [← hu']; exact recv_3
  have v4 : u' 4 = upd (u 4) (cn u) (nI t) := by rw [← hu']; exact recv_4
  have v1 : u' 1 = u 1 := by rw [← hu']; exact recv_c (by decide) (by decide) (by decide) (by decide) (by omega)
  have v5 : u' 5 = u 5 := by rw [← hu']; exact recv_c (by decide) (by decide) (by decide) (by decide) (by omega)
  have vq : u' (6 + j) = Q := by rw [← hu']; exact recv_q
  have vp : ∀ p, p ≠ j → u' (6 + p) = u (6 + p) := fun p hp => by rw [← hu']; exact recv_c (by omega) (by omega) (by omega) (by omega) (by omega)
  obtain ⟨hM, hT, hS, hF, hQ, row, hR, hn, h3⟩ := h
  have vc : cn u' = cn u + 1 := by
    show tn (u' 0 3) = cn u + 1
    rw [v0, pk_us]
    exact tn_of rfl (by omega)
  have ht3 : t < 3 := by omega
  have hq2 : qof (nI f) = nI j := by rw [qof_nI (by omega), hfj]
  have old : ∀ i, i < cn u → u' 2 i = u 2 i ∧ u' 4 i = u 4 i := fun i hi => by
    rw [v2, v4, pk_un (by omega), pk_un (by omega)]; exact ⟨rfl, rfl⟩
  have new : ∀ p s, p < 3 → s < 3 → (FR u' p (nI s) (cn u) ↔ t = s ∧ j = p) := fun p s hp hs => by
    unfold FR
    rw [v2, v4, pk_us, pk_us, hq2, nI_3 ht3 hs, nI_3 hj hp]
  have fo : ∀ p s i, i < cn u → (FR u' p s i ↔ FR u p s i) := fun p s i hi => by
    unfold FR
    rw [(old i hi).1, (old i hi).2]
  have N : ∀ p, p < 3 → ∀ s, s < 3 → nS u' p (nI s) (cn u + 1) = nS u p (nI s) (cn u) + (if t = s ∧ j = p then 1 else 0) := by
    intro p hp s hs
    rw [nS, nS_cong (cn u) old]
    simp only [new p s hp hs]
  have SW : ∀ p, p < 3 → sW u' p (cn u + 1) = sW u p (cn u) ∧ mW u' p (cn u + 1) = mW u p (cn u) := by
    intro p hp
    have n1 : ¬ FR u' p (nI 1) (cn u) := fun z => by have := (new p 1 hp (by decide)).mp z; omega
    obtain ⟨a, b⟩ := sW_cong (u := u) (u' := u') (p := p) (cn u) (fun i hi => ⟨(old i hi).1, (old i hi).2, by rw [v3, pk_un (by omega)], fun _ => by rw [v5]⟩)
    rw [sW, mW, if_neg n1, if_neg n1, a, b]
    exact ⟨Int32.add_zero _, rfl⟩
  have ORD : ∀ p, p < 3 → WQ u p → ∀ i k, i < k → k < cn u + 1 → FR u' p (nI 0) i → ¬ FR u' p (nI 1) k := by
    intro p hp hw i k hik hk hi hk1
    by_cases ek : k = cn u
    · rw [ek] at hk1
      have := (new p 1 hp (by decide)).mp hk1
      omega
    · rw [fo p _ i (by omega)] at hi
      rw [fo p _ k (by omega)] at hk1
      exact hw.2.2.2.2.2.2.2.2.2.2 i k hik (by omega) hi hk1
  have hR' : SR u' row := SR_cong hR (fun p hp => by
    by_cases c : p = j
    · subst c; rw [vq]; exact e 3 (by decide) (by decide) (by decide)
    · rw [vp p c])
  refine ⟨⟨⟨?_, ?_, ?_⟩, ?_, by unfold WSt; rw [v1]; exact hS, fun i hi => ?_, fun p hp => ?_, row, hR', hn, h3⟩, vc, N⟩
  · rw [vc, v0, pk_us]
  · rw [vc]; omega
  · rw [v1]; exact hM.2.2
  · rw [v0, pk_un (by decide)]; exact hT
  · rw [vc] at hi
    by_cases ei : i = cn u
    · subst ei
      rw [v2, v3, v4, pk_us, pk_us, pk_us]
      refine ⟨⟨⟨f, hf, rfl⟩, ?_⟩, T, hT, Nat.le_refl _, fun z => ?_⟩
      · rcases ht with rfl | rfl
        · exact Or.inl rfl
        · exact Or.inr (Or.inr rfl)
      · have := (nI_3 ht3 (by decide)).mp z
        omega
    · rw [v2, v3, v4, v5, pk_un ei, pk_un ei, pk_un ei]
      exact hF i (by omega)
  · have hw := hQ p hp
    obtain ⟨s1, s2⟩ := SW p hp
    have hO := ORD p hp hw
    have n0 := N p hp 0 (by decide)
    have n1 := N p hp 1 (by decide)
    have n2 := N p hp 2 (by decide)
    rw [if_neg (by omega)] at n1
    unfold WQ
    rw [vc, s1, s2, n0, n1, n2]
    obtain ⟨a0, a1, a2, a3, a4, a5, a6, a7, a8, a9, a10⟩ := hw
    by_cases c : p = j
    · subst c
      rw [vq, e 4 (by decide) (by decide) (by decide), e 0 (by decide) (by decide) (by decide), e5, e6, e 8 (by decide) (by decide) (by decide), e9, e 10 (by decide) (by decide) (by decide), e 11 (by decide) (by decide) (by decide), e 2 (by decide) (by decide) (by decide), e 12 (by decide) (by decide) (by decide), e 3 (by decide) (by decide) (by decide)]
      refine ⟨a0, by simp, ?_, a3, by simp, a5, a6, a7, a8, a9, hO⟩
      by_cases ht0 : t = 0 ∧ u (6 + p) 6 = (-6)
      · rw [if_pos ht0]
        rcases a2 with ⟨b1, b2⟩ | ⟨o, b1, b2, -⟩
        · exact Or.inr ⟨cn u, rfl, by omega, (new p 0 hp (by decide)).mpr ⟨ht0.1, rfl⟩, fun i hi z => b2 i hi ((fo p _ i hi).mp z)⟩
        · rw [b1] at ht0
          exact absurd ht0.2 (k_neg (by omega) (by decide))
      · rw [if_neg ht0]
        rcases a2 with ⟨b1, b2⟩ | ⟨o, b1, b2, b3, b4⟩
        · refine Or.inl ⟨b1, fun i hi z => ?_⟩
          by_cases ei : i = cn u
          · subst ei
            exact ht0 ⟨((new p 0 hp (by decide)).mp z).1, b1⟩
          · exact b2 i (by omega) ((fo p _ i (by omega)).mp z)
        · exact Or.inr ⟨o, b1, by omega, (fo p _ o b2).mpr b3, fun i hi z => b4 i hi ((fo p _ i (by omega)).mp z)⟩
    · have c' : ¬ j = p := fun z => c z.symm
      rw [vp p c, if_neg (fun z => c' z.2), if_neg (fun z => c' z.2)]
      refine ⟨a0, a1, ?_, a3, a4, a5, a6, a7, a8, a9, hO⟩
      rcases a2 with ⟨b1, b2⟩ | ⟨o, b1, b2, b3, b4⟩
      · refine Or.inl ⟨b1, fun i hi z => ?_⟩
        by_cases ei : i = cn u
        · subst ei
          exact c' ((new p 0 hp (by decide)).mp z).2
        · exact b2 i (by omega) ((fo p _ i (by omega)).mp z)
      · exact Or.inr ⟨o, b1, by omega, (fo p _ o b2).mpr b3, fun i hi z => b4 i hi ((fo p _ i (by omega)).mp z)⟩
/-- frames in the ring of a queue, frames dropped on all, as they are counted -/
def rg (u : CS) (j : Nat) : Nat := nS u j (nI 0) (cn u)
def dr (u : CS) : Nat := nS u 0 (nI 2) (cn u) + nS u 1 (nI 2) (cn u) + nS u 2 (nI 2) (cn u)
theorem WL_recv {u : CS} {T f : Nat} (h : WL u T) (hf : f ≤ 99) (hc : cn u < 400) : m_X0_receive_r u (nI f) = nI (cn u) ∧ WL (m_X0_receive_u u (nI f)) T ∧ cn (m_X0_receive_u u (nI f)) = cn u + 1 ∧ m_X0_receive_u u (nI f) 1 = u 1 ∧
    (if rg u (f % 3) < tn (u 1 0) then rg (m_X0_receive_u u (nI f)) (f % 3) = rg u (f % 3) + 1 ∧ dr (m_X0_receive_u u (nI f)) = dr u else rg (m_X0_receive_u u (nI f)) (f % 3) = rg u (f % 3) ∧ dr (m_X0_receive_u u (nI f)) = dr u + 1) := by
  have hj : f % 3 < 3 := Nat.mod_lt _ (by decide)
  obtain ⟨j, ej⟩ : ∃ j, f % 3 = j := ⟨_, rfl⟩
  rw [ej] at hj ⊢
  obtain ⟨r1, r2⟩ := receive_eq (u := u) (x := nI f) hj (nI_pos (by omega)) ((nI_leI (by omega) (by decide)).mpr hf) hc (by rw [pk_rem (by omega) (by decide) (by decide), ej])
  obtain ⟨r, er, hr1, hr2⟩ := h.2.2.1.2
  have hw := h.2.2.2.2.1 j hj
  have l0 := nS_le u j (nI 0) (cn u)
  have etr : tn (u 1 0) = r := tn_of er (by omega)
  have e5 := hw.2.1
  have e9 := hw.2.2.2.2.1
  have lt : u (6 + j) 5 < u 1 0 ↔ rg u j < r := by rw [e5, er, nI_ltI (by omega) (by omega)]; exact Iff.rfl
  have fin : ∀ (t : Nat) (Q : Nat → Int32), (t = 0 ∨ t = 2) → (∀ i, i ≠ 5 → i ≠ 6 → i ≠ 9 → Q i = u (6 + j) i) → Q 5 = nI (nS u j (nI 0) (cn u) + if t = 0 then 1 else 0) → Q 9 = nI (nS u j (nI 2) (cn u) + if t = 2 then 1 else 0) → Q 6 = (if t = 0 ∧ u (6 + j) 6 = (-6) then nI (cn u) else u (6 + j) 6) → WL (recvG j u (nI f) (nI t) Q) T ∧ cn (recvG j u (nI f) (nI t) Q) = cn u + 1 ∧ recvG j u (nI f) (nI t) Q 1 = u 1 ∧ rg (recvG j u (nI f) (nI t) Q) j = rg u j + (if t = 0 then 1 else 0) ∧ dr (recvG j u (nI f) (nI t) Q) = dr u + (if t = 2 then 1 else 0) := by
    intro t Q ht a b c d
    obtain ⟨w1, w2, w3⟩ := WL_recvG hj h hf ej hc ht a b c d
    refine ⟨w1, w2, recv_c (by decide) (by decide) (by decide) (by decide) (by omega), ?_, ?_⟩
    · unfold rg
      rw [w2, w3 j hj 0 (by decide)]
      simp
    · unfold dr
      rw [w2, w3 0 (by decide) 2 (by decide), w3 1 (by decide) 2 (by decide), w3 2 (by decide) 2 (by decide)]
      rcases ht with rfl | rfl
      · simp
      · rcases (by omega : j = 0 ∨ j = 1 ∨ j = 2) with rfl | rfl | rfl <;> simp <;> omega
  refine ⟨r1, ?_⟩
  rw [r2, etr]
  by_cases c : u (6 + j) 5 < u 1 0
  · rw [if_pos c, if_pos (lt.mp c)]
    by_cases d : u (6 + j) 6 = (-6)
    · rw [if_pos d]
      obtain ⟨f1, f2, f3, f4, f5⟩ := fin 0 (upd (upd (u (6 + j)) 5 ((u (6 + j) 5) + (nI 1))) 6 (nI (cn u))) (Or.inl rfl) (fun i h5 h6 _ => by rw [pk_un h6, pk_un h5]) (by rw [pk_un (by decide), pk_us, e5, nI_add]; rfl) (by rw [pk_un (by decide), pk_un (by decide), e9]; rfl) (by rw [pk_us, if_pos ⟨rfl, d⟩])
      exact ⟨f1, f2, f3, f4, f5⟩
    · rw [if_neg d]
      obtain ⟨f1, f2, f3, f4, f5⟩ := fin 0 (upd (u (6 + j)) 5 ((u (6 + j) 5) + (nI 1))) (Or.inl rfl) (fun i h5 h6 _ => by rw [pk_un h5]) (by rw [pk_us, e5, nI_add]; rfl) (by rw [pk_un (by decide), e9]; rfl) (by rw [pk_un (by decide), if_neg (fun z => d z.2)])
      exact ⟨f1, f2, f3, f4, f5⟩
  · rw [if_neg c, if_neg (fun z => c (lt.mpr z))]
    obtain ⟨f1, f2, f3, f4, f5⟩ := fin 2 (upd (u (6 + j)) 9 ((u (6 + j) 9) + (nI 1))) (Or.inr rfl) (fun i _ _ h9 => by rw [pk_un h9]) (by rw [pk_un (by decide), e5]; rfl) (by rw [pk_us, e9, nI_add]; rfl) (by rw [pk_un (by decide), if_neg (fun z => absurd z.1 (by decide))])
    exact ⟨f1, f2, f3, f4, f5⟩
/-- a queue's other cells are as they were -/
theorem WL_q {u : CS} {T j : Nat} {Q : Nat → Int32} (hj : j < 3) (h : WL u T) (e : ∀ i, (i = 3 ∨ i = 5 ∨ i = 6 ∨ i = 8 ∨ i = 9 ∨ i = 10 ∨ i = 11 ∨ i = 12) → Q i = u (6 + j) i) (b4 : BB (Q 4) ∧ ¬ Q 0 < 0) (b2 : ∃ c, Q 2 = nI c ∧ 1 ≤ c ∧ c ≤ 32) : WL (st2 u (6 + j) Q) T := by
  obtain ⟨hM, hT, hS, hF, hQ, row, hR, hn, h3⟩ := h
  have w : ∀ c, c ≠ 6 + j → st2 u (6 + j) Q c = u c := fun c hc => st2_n hc
  have kc : cn (st2 u (6 + j) Q) = cn u := cn_of (w 0 (by omega))
  refine ⟨CM_of hM (w 0 (by omega)) (w 1 (by omega)), by rw [w 0 (by omega)]; exact hT, by unfold WSt; rw [w 1 (by omega)]; exact hS, WFr_of hF (Nat.le_refl _) kc (w 2 (by omega)) (w 3 (by omega)) (w 4 (by omega)) (w 5 (by omega)), fun p hp => ?_, row, SR_cong hR (fun p hp => ?_), hn, h3⟩
  · have h' := hQ p hp
    by_cases c : p = j
    · subst c
      refine WQ_of h' kc (w 2 (by omega)) (w 3 (by omega)) (w 4 (by omega)) (w 5 (by omega)) (fun i hi => by rw [st2_s]; exact e i (by omega)) (by rw [st2_s]; exact b4) (by rw [st2_s]; exact b2) ?_ ?_
      · rw [st2_s, e 12 (by omega)]; exact h'.2.2.2.2.2.2.2.2.1
      · rw [st2_s, e 12 (by omega), e 3 (by omega)]; exact h'.2.2.2.2.2.2.2.2.2.1
    · exact WQ_same h' kc (w 2 (by omega)) (w 3 (by omega)) (w 4 (by omega)) (w 5 (by omega)) (fun i _ _ => by rw [w (6 + p) (by omega)]) (fun z => by rw [w (6 + p) (by omega)] at z; exact z)
  · by_cases c : p = j
    · subst c; rw [st2_s]; exact e 3 (by omega)
    · rw [w (6 + p) (by omega)]
theorem WL_bnd {u : CS} {T j c w : Nat} (hj : j < 3) (h : WL u T) (h1 : 1 ≤ c) (h2 : c ≤ 32) (h3 : 1 ≤ w) (h4 : w ≤ 99) : m_X0_changeBounds_r u (nI j) (nI c) (nI w) = u (6 + j) 0 ∧ m_X0_changeBounds_u u (nI j) (nI c) (nI w) = st2 u (6 + j) (upd (upd (upd (u (6 + j)) 0 (nI c)) 1 (nI w)) 2 (nI c)) ∧ WL (m_X0_changeBounds_u u (nI j) (nI c) (nI w)) T := by
  have c1 : ¬ nI c < nI 1 := by rw [nI_ltI (by omega) (by decide)]; omega
  have c2 : ¬ nI 32 < nI c := by rw [nI_ltI (by decide) (by omega)]; omega
  have c3 : ¬ nI w < nI 1 := by rw [nI_ltI (by omega) (by decide)]; omega
  have c4 : nI w ≤ nI 99 := by rw [nI_leI (by omega) (by decide)]; exact h4
  obtain ⟨e1, e2⟩ := cbu (u := u) (c := nI c) (w := nI w) hj
  rw [if_neg c1, if_neg c2, if_neg c3, if_pos c4] at e1 e2
  refine ⟨e2, e1, ?_⟩
  rw [e1]
  refine WL_q hj h (fun i hi => ?_) ?_ ?_
  · rw [pk_un (by omega), pk_un (by omega), pk_un (by omega)]
  · rw [pk_un (by decide), pk_un (by decide), pk_un (by decide)]; exact ⟨(h.2.2.2.2.1 j hj).1.1, nI_pos (by omega)⟩
  · rw [pk_us]; exact ⟨c, rfl, h1, h2⟩
theorem WL_mask {u : CS} {T j : Nat} (hj : j < 3) (h : WL u T) : m_X0_changeMask_r u (nI j) = nI 1 - u (6 + j) 4 ∧ m_X0_changeMask_u u (nI j) = st2 u (6 + j) (upd (u (6 + j)) 4 (nI 1 - u (6 + j) 4)) ∧ BB (nI 1 - u (6 + j) 4) ∧ WL (m_X0_changeMask_u u (nI j)) T := by
  have hw := h.2.2.2.2.1 j hj
  obtain ⟨a, b, c⟩ := cmk_eq (u := u) hj hw.1.1
  refine ⟨a, b, c, ?_⟩
  rw [b]
  refine WL_q hj h (fun i hi => ?_) ?_ ?_
  · rw [pk_un (by omega)]
  · rw [pk_us, pk_un (by decide)]; exact ⟨c, hw.1.2⟩
  · rw [pk_un (by decide)]; exact hw.2.2.2.2.2.2.2.1
theorem call_eq {u : CS} {j : Nat} (hj : j < 3) : m_X0_callByHand_r u (nI j) = (if u (6 + j) 3 = (-1) then (if u (6 + j) 5 = 0 then (-5) else m_X0_rowLength_r u) else (-5)) ∧ m_X0_callByHand_u u (nI j) = (if u (6 + j) 3 = (-1) then (if u (6 + j) 5 = 0 then u else enterG j u) else u) := by
  have n10 : ¬ nI 1 = nI 0 := by decide +kernel
  have n20 : ¬ nI 2 = nI 0 := by decide +kernel
  have n21 : ¬ nI 2 = nI 1 := by decide +kernel
  have b : ∀ x : Int32, (if x = (-1) then nI 0 else nI 1) = 0 ↔ x = (-1) := fun x => by
    by_cases c : x = (-1)
    · rw [if_pos c]; exact ⟨fun _ => c, fun _ => rfl⟩
    · rw [if_neg c]; exact ⟨fun z => absurd z (by decide +kernel), fun z => absurd z c⟩
  have pl : ∀ p, enterG p u (6 + p) 3 = m_X0_rowLength_r u := fun p => by unfold enterG; rw [st2_s]; rfl
  rw [m_X0_callByHand_r, m_X0_callByHand_u, if_neg (isq_t hj), if_neg (isq_t hj)]
  unfold m_X3_isCalled_r
  simp only [b]
  rcases (by omega : j = 0 ∨ j = 1 ∨ j = 2) with rfl | rfl | rfl
  · rw [if_pos rfl, if_pos rfl, enter_0, show enterG 0 u 6 3 = m_X0_rowLength_r u from pl 0]; exact ⟨rfl, rfl⟩
  · rw [if_neg n10, if_neg n10, if_pos rfl, if_pos rfl, enter_1, show enterG 1 u 7 3 = m_X0_rowLength_r u from pl 1]; exact ⟨rfl, rfl⟩
  · rw [if_neg n20, if_neg n20, if_neg n21, if_neg n21, enter_2, show enterG 2 u 8 3 = m_X0_rowLength_r u from pl 2]; exact ⟨rfl, rfl⟩
theorem WL_call {u : CS} {T j : Nat} (hj : j < 3) (h : WL u T) : WL (m_X0_callByHand_u u (nI j)) T := by
  rw [(call_eq hj).2]
  by_cases c : u (6 + j) 3 = (-1)
  · rw [if_pos c]
    split
    · exact h
    · exact WL_enter hj h c
  · rw [if_neg c]; exact h
/-- the values that a setting may have -/
def setOk (j v : Nat) : Prop := (j = 0 ∧ 1 ≤ v ∧ v ≤ 32) ∨ (j = 1 ∧ 1 ≤ v ∧ v ≤ 16) ∨ (j = 2 ∧ v ≤ 1) ∨ (j = 3 ∧ v ≤ 50)
theorem WL_set {u : CS} {T j v : Nat} (h : WL u T) (hv : setOk j v) : m_X0_changeSetting_r u (nI j) (nI v) = u 1 j ∧ m_X0_changeSetting_u u (nI j) (nI v) = st2 u 1 (upd (u 1) j (nI v)) ∧ WL (m_X0_changeSetting_u u (nI j) (nI v)) T := by
  have hj : j < 4 := by unfold setOk at hv; omega
  have ej : tn (nI j) = j := tn_of rfl (by omega)
  have c0 : ¬ nI j < 0 := nI_pos (by omega)
  have c4 : nI j < nI 4 := (nI_ltI (by omega) (by decide)).mpr hj
  have c1 : ¬ nI v < SVi 0 j := by
    rcases hv with ⟨rfl, a, b⟩ | ⟨rfl, a, b⟩ | ⟨rfl, b⟩ | ⟨rfl, b⟩
    · show ¬ nI v < nI 1
      rw [nI_ltI (by omega) (by decide)]; omega
    · show ¬ nI v < nI 1
      rw [nI_ltI (by omega) (by decide)]; omega
    · exact nI_pos (by omega)
    · exact nI_pos (by omega)
  have c2 : nI v ≤ SVi 1 j := by
    rcases hv with ⟨rfl, a, b⟩ | ⟨rfl, a, b⟩ | ⟨rfl, b⟩ | ⟨rfl, b⟩
    · exact (nI_leI (b := 32) (by omega) (by decide)).mpr b
    · exact (nI_leI (b := 16) (by omega) (by decide)).mpr b
    · exact (nI_leI (b := 1) (by omega) (by decide)).mpr b
    · exact (nI_leI (b := 50) (by omega) (by decide)).mpr b
  rw [m_X0_changeSetting_r, m_X0_changeSetting_u, ej, if_neg c0, if_neg c0, if_pos c4, if_pos c4, if_neg c1, if_neg c1, if_pos c2, if_pos c2]
  refine ⟨rfl, rfl, ?_⟩
  obtain ⟨hM, hT, ⟨⟨b, eb, b1, b2⟩, r, er, r1, r2⟩, hF, hQ, row, hR, hn, h3⟩ := h
  obtain ⟨u', hu'⟩ : ∃ u', st2 u 1 (upd (u 1) j (nI v)) = u' := ⟨_, rfl⟩
  have w : ∀ c, c ≠ 1 → u' c = u c := fun c hc => by rw [← hu']; exact st2_n hc
  have w1 : u' 1 = upd (u 1) j (nI v) := by rw [← hu']; exact st2_s
  have kc : cn u' = cn u := cn_of (w 0 (by decide))
  rw [hu']
  have s1 : ∃ b, u' 1 1 = nI b ∧ 1 ≤ b ∧ b ≤ 16 := by
    rw [w1]
    by_cases c : j = 1
    · subst c; rw [pk_us]; unfold setOk at hv; exact ⟨v, rfl, by omega, by omega⟩
    · rw [pk_un (by omega)]; exact ⟨b, eb, b1, b2⟩
  refine ⟨⟨?_, ?_, ?_⟩, by rw [w 0 (by decide)]; exact hT, ⟨s1, ?_⟩, WFr_of hF (Nat.le_refl _) kc (w 2 (by decide)) (w 3 (by decide)) (w 4 (by decide)) (w 5 (by decide)), fun p hp => ?_, row, SR_cong hR (fun p hp => by rw [w _ (by omega)]), hn, h3⟩
  · rw [kc, w 0 (by decide)]; exact hM.1
  · rw [kc]; exact hM.2.1
  · obtain ⟨b', e', x1, x2⟩ := s1
    rw [e', tn_of rfl (by omega)]
    exact ⟨rfl, x2⟩
  · rw [w1]
    by_cases c : j = 0
    · subst c; rw [pk_us]; unfold setOk at hv; exact ⟨v, rfl, by omega, by omega⟩
    · rw [pk_un (by omega)]; exact ⟨r, er, r1, r2⟩
  · exact WQ_same (hQ p hp) kc (w 2 (by decide)) (w 3 (by decide)) (w 4 (by decide)) (w 5 (by decide)) (fun i _ _ => by rw [w _ (by omega)]) (fun z => by rw [w _ (by omega)] at z; exact z)
/-- a copy -/
theorem WL_copy {p v : CS} {T : Nat} (h : WL v T) : WL (m_X0_copyFrom_u p v) T ∧ cn (m_X0_copyFrom_u p v) = cn v := by
  obtain ⟨hM, hT, hS, hF, hQ, row, hR, hn, h3⟩ := h
  have hc := hM.2.1
  obtain ⟨u', hu'⟩ : ∃ u', m_X0_copyFrom_u p v = u' := ⟨_, rfl⟩
  have a := AL_copy (p := p) hM
  rw [hu'] at a ⊢
  have kc : cn u' = cn v := a.cn
  have f5 : ∀ i, i < cn v → u' 5 i = v 5 i := fun i hi => by rw [← hu']; exact cpy0 hi
  obtain ⟨a2, a3, a1, af, aq⟩ := a
  refine ⟨⟨⟨?_, ?_, ?_⟩, by rw [a2]; exact hT, ?_, fun i hi => ?_, fun q hq => ?_, row, SR_cong hR (fun q hq => aq q hq 3 (by decide)), hn, h3⟩, kc⟩
  · rw [kc, a3]; exact hM.1
  · rw [kc]; exact hc
  · rw [a1 1 (by decide)]; exact hM.2.2
  · unfold WSt; rw [a1 1 (by decide), a1 0 (by decide)]; exact hS
  · rw [kc] at hi
    obtain ⟨b2, b3, b4⟩ := af i hi
    rw [b2, b3, b4, f5 i hi]
    exact hF i hi
  · have e := aq q hq
    have n := fun s => nS_cong (u := v) (u' := u') (p := q) (s := s) (cn v) (fun i hi => ⟨(af i hi).1, (af i hi).2.2⟩)
    obtain ⟨s1, s2⟩ := sW_cong (u := v) (u' := u') (p := q) (cn v) (fun i hi => ⟨(af i hi).1, (af i hi).2.2, (af i hi).2.1, fun _ => f5 i hi⟩)
    have fr : ∀ s i, i < cn v → (FR u' q s i ↔ FR v q s i) := fun s i hi => by unfold FR; rw [(af i hi).1, (af i hi).2.2]
    obtain ⟨x0, x1, x2, x3, x4, x5, x6, x7, x8, x9, x10⟩ := hQ q hq
    unfold WQ
    rw [kc, n, n, n, s1, s2, e 0 (by decide), e 2 (by decide), e 3 (by decide), e 4 (by decide), e 5 (by decide), e 6 (by decide), e 8 (by decide), e 9 (by decide), e 10 (by decide), e 11 (by decide), e 12 (by decide)]
    exact ⟨x0, x1, OLD_cong x2 (fun i hi => fr _ i hi), x3, x4, x5, x6, x7, x8, x9, fun i k hik hk hi hk1 => x10 i k hik hk ((fr _ i (by omega)).mp hi) ((fr _ k hk).mp hk1)⟩
theorem cn_iC : cn iC = 0 := by decide +kernel
theorem WL_init : WL iC 0 := by
  refine ⟨?_, by decide +kernel, ⟨⟨4, by decide +kernel, by decide, by decide⟩, 16, by decide +kernel, by decide, by decide⟩, fun i hi => ?_, fun q hq => ?_, [], fun q hq => Or.inl ⟨List.not_mem_nil, ?_⟩, List.nodup_nil, fun x h => by simp at h⟩
  · unfold CM; decide +kernel
  · rw [cn_iC] at hi; exact absurd hi (Nat.not_lt_zero i)
  · unfold WQ OLD
    rw [cn_iC]
    rcases (by omega : q = 0 ∨ q = 1 ∨ q = 2) with rfl | rfl | rfl <;> exact ⟨⟨Or.inl (by decide +kernel), by decide +kernel⟩, by decide +kernel, Or.inl ⟨by decide +kernel, fun i hi => absurd hi (Nat.not_lt_zero i)⟩, by decide +kernel, by decide +kernel, by decide +kernel, by decide +kernel, ⟨4, by decide +kernel, by decide, by decide⟩, ⟨0, by decide +kernel, Nat.zero_le _⟩, fun _ => by decide +kernel, fun i j _ hj => absurd hj (Nat.not_lt_zero j)⟩
  · rcases (by omega : q = 0 ∨ q = 1 ∨ q = 2) with rfl | rfl | rfl <;> decide +kernel
