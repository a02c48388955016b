/-! A frame comes, side by side -/
def recvG (j : Nat) (u : CS) (x s : Int32) (Q : Nat → Int32) : CS := st2 (st2 (st2 (st2 (st2 u 0 (upd (u 0) 3 (nI (cn u + 1)))) 2 (upd (u 2) (cn u) x)) 3 (upd (u 3) (cn u) (u 0 2))) 4 (upd (u 4) (cn u) s)) (6 + j) Q
theorem receive_eq {u : CS} {x : Int32} {j : Nat} (hj : j < 3) (h0 : ¬ x < 0) (h9 : x ≤ nI 99) (hc : cn u < 400) (hx : x - x / nI 3 * nI 3 = nI j) : m_X0_receive_r u x = nI (cn u) ∧ m_X0_receive_u u x = if u (6 + j) 5 < u 1 0 then (if u (6 + j) 6 = (-6) then recvG j u x (nI 0) (upd (upd (u (6 + j)) 5 ((u (6 + j) 5) + (nI 1))) 6 (nI (cn u))) else recvG j u x (nI 0) (upd (u (6 + j)) 5 ((u (6 + j) 5) + (nI 1)))) else recvG j u x (nI 2) (upd (u (6 + j)) 9 ((u (6 + j) 9) + (nI 1))) := by
  have n10 : ¬ nI 1 = nI 0 := by decide +kernel
  have n20 : ¬ nI 2 = nI 0 := by decide +kernel
  have n21 : ¬ nI 2 = nI 1 := by decide +kernel
  have n00 : nI 0 = nI 0 := rfl
  have n11 : nI 1 = nI 1 := rfl
  rw [m_X0_receive_r, m_X0_receive_u, if_neg h0, if_neg h0, if_pos h9, if_pos h9, if_pos hc, if_pos hc, hx]
  rcases (by omega : j = 0 ∨ j = 1 ∨ j = 2) with rfl | rfl | rfl
  · rw [if_pos n00, if_pos n00]
    refine ⟨?_, rfl⟩
    split
    · split <;> rfl
    · rfl
  · rw [if_neg n10, if_neg n10, if_pos n11, if_pos n11]
    refine ⟨?_, rfl⟩
    split
    · split <;> rfl
    · rfl
  · rw [if_neg n20, if_neg n20, if_neg n21, if_neg n21]
    refine ⟨?_, rfl⟩
    split
    · split <;> rfl
    · rfl
/-- the row of the reference with one frame more -/
def fr1 (f : Nat → Int32) (n fl : Nat) (s : Int32) : Nat → Int32 := upd (upd (upd (upd (upd f (40 + (4 * n)) (nI fl)) (40 + (4 * n) + 1) (f 4)) (40 + (4 * n) + 2) s) (40 + (4 * n) + 3) (nI 0)) 5 (nI (n + 1))
theorem fr1_hd {f : Nat → Int32} {n fl : Nat} {s : Int32} : ∀ j, j < 10 → j ≠ 5 → fr1 f n fl s j = f j := fun j hj h5 => (pk_un h5).trans ((pk_un (by omega)).trans ((pk_un (by omega)).trans ((pk_un (by omega)).trans (pk_un (by omega)))))
theorem fr1_5 {f : Nat → Int32} {n fl : Nat} {s : Int32} : fr1 f n fl s 5 = nI (n + 1) := pk_us
theorem fr1_0 {f : Nat → Int32} {n fl : Nat} {s : Int32} : m_X5_frameAt_r (fr1 f n fl s) n 0 = nI fl := (pk_un (by omega)).trans ((pk_un (by omega)).trans ((pk_un (by omega)).trans ((pk_un (by omega)).trans pk_us)))
theorem fr1_1 {f : Nat → Int32} {n fl : Nat} {s : Int32} : m_X5_frameAt_r (fr1 f n fl s) n 1 = f 4 := (pk_un (by omega)).trans ((pk_un (by omega)).trans ((pk_un (by omega)).trans pk_us))
theorem fr1_2 {f : Nat → Int32} {n fl : Nat} {s : Int32} : m_X5_frameAt_r (fr1 f n fl s) n 2 = s := (pk_un (by omega)).trans ((pk_un (by omega)).trans pk_us)
theorem fr1_o {f : Nat → Int32} {n fl i w : Nat} {s : Int32} (hi : i ≠ n) (hw : w < 4) : m_X5_frameAt_r (fr1 f n fl s) i w = m_X5_frameAt_r f i w := (pk_un (by omega)).trans ((pk_un (by omega)).trans ((pk_un (by omega)).trans ((pk_un (by omega)).trans (pk_un (by omega)))))
theorem fr1_g {f : Nat → Int32} {n fl q w : Nat} {s : Int32} (hq : q < 3) (hw : w < 10) : m_X5_get_r (fr1 f n fl s) q w = m_X5_get_r f q w := (pk_un (by omega)).trans ((pk_un (by omega)).trans ((pk_un (by omega)).trans ((pk_un (by omega)).trans (pk_un (by omega)))))
theorem doCome_eq {f : Nat → Int32} {fl : Nat} : m_X5_doCome_r f fl = nI (tn (f 5)) ∧ m_X5_doCome_f f fl = if m_X5_ring_r f (fl % 3) < f 0 then m_X5_more_f (fr1 f (tn (f 5)) fl (nI 0)) (fl % 3) 6 (nI 0) else m_X5_more_f (fr1 f (tn (f 5)) fl (nI 2)) (fl % 3) 6 (nI 1) := by
  refine ⟨?_, rfl⟩
  rw [m_X5_doCome_r]
  split <;> rfl
theorem isin_new {F : Nat → Int32} {n fl p : Nat} {s : Int32} (h0 : m_X5_frameAt_r F n 0 = nI fl) (h2 : m_X5_frameAt_r F n 2 = s) (hfl : fl ≤ 99) (hp : p < 3) : (s = nI 2 → m_X5_isInRing_r F n p = 0) ∧ (s = nI 0 → p ≠ fl % 3 → m_X5_isInRing_r F n p = 0) ∧ (s = nI 0 → p = fl % 3 → ¬ m_X5_isInRing_r F n p = 0) := by
  refine ⟨fun e => isin_2 (h2.trans e), fun e hn => ?_, fun e hn => ?_⟩
  · unfold m_X5_isInRing_r
    rw [h2, e, h0, pk_rem (by omega) (by decide) (by decide), if_pos (show nI 0 = 0 from rfl), if_neg (fun z => hn ((nI_eq (by omega) (by omega)).mp z).symm)]
    rfl
  · unfold m_X5_isInRing_r
    rw [h2, e, h0, pk_rem (by omega) (by decide) (by decide), if_pos (show nI 0 = 0 from rfl), if_pos (by rw [hn])]
    decide +kernel
/-- a frame more, whatever becomes of it -/
theorem CORE_come {u : CS} {f Q : Nat → Int32} {fl : Nat} {s d : Int32} (h : CORE u f) (hfl : fl ≤ 99) (hc : cn u < 400) (hs : s = nI 0 ∨ s = nI 2) (hQ : ∀ w, w < 10 → w ≠ 6 → Q (gq w) = u (6 + fl % 3) (gq w)) (h9 : Q 9 = u (6 + fl % 3) 9 + d) (h5 : Q 5 = if s = nI 0 then u (6 + fl % 3) 5 + nI 1 else u (6 + fl % 3) 5) (h6 : Q 6 = if s = nI 0 then (if u (6 + fl % 3) 6 = (-6) then nI (cn u) else u (6 + fl % 3) 6) else u (6 + fl % 3) 6) : CORE (recvG (fl % 3) u (nI fl) s Q) (m_X5_more_f (fr1 f (tn (f 5)) fl s) (fl % 3) 6 d) := by
  obtain ⟨j, hj⟩ : ∃ j, fl % 3 = j := ⟨_, rfl⟩
  have hj3 : j < 3 := by omega
  obtain ⟨n, hn⟩ : ∃ n, cn u = n := ⟨_, rfl⟩
  have h5c := h.cn5
  obtain ⟨hM, e4, e5, hS, hF, hq0⟩ := h
  rw [hn] at h5c hc hF h6
  rw [hj] at hQ h9 h5 h6 ⊢
  rw [h5c]
  have v : ∀ c, c ≠ 0 → c ≠ 2 → c ≠ 3 → c ≠ 4 → c ≠ 6 + j → recvG j u (nI fl) s Q c = u c := fun c a1 a2 a3 a4 a5 => by unfold recvG; rw [st2_n a5, st2_n a4, st2_n a3, st2_n a2, st2_n a1]
  have v0 : recvG j u (nI fl) s Q 0 = upd (u 0) 3 (nI (n + 1)) := by unfold recvG; rw [st2_n (by omega), st2_n (by decide), st2_n (by decide), st2_n (by decide), st2_s, hn]
  have v2 : recvG j u (nI fl) s Q 2 = upd (u 2) n (nI fl) := by unfold recvG; rw [st2_n (by omega), st2_n (by decide), st2_n (by decide), st2_s, hn]
  have v3 : recvG j u (nI fl) s Q 3 = upd (u 3) n (u 0 2) := by unfold recvG; rw [st2_n (by omega), st2_n (by decide), st2_s, hn]
  have v4 : recvG j u (nI fl) s Q 4 = upd (u 4) n s := by unfold recvG; rw [st2_n (by omega), st2_s, hn]
  have vq : recvG j u (nI fl) s Q (6 + j) = Q := by unfold recvG; rw [st2_s]
  have hcn : cn (recvG j u (nI fl) s Q) = n + 1 := by show tn (recvG j u (nI fl) s Q 0 3) = _; rw [v0, pk_us, tn_of rfl (by omega)]
  obtain ⟨F, hFe⟩ : ∃ F, m_X5_more_f (fr1 f n fl s) j 6 d = F := ⟨_, rfl⟩
  have F5 : F 5 = nI (n + 1) := by rw [← hFe, AG_more (AG.rf _) 5 (by decide)]; exact fr1_5
  have Fa : ∀ i w, m_X5_frameAt_r F i w = m_X5_frameAt_r (fr1 f n fl s) i w := fun i w => by rw [← hFe, a_more hj3 (by decide)]
  have Fh : ∀ i, i < 10 → i ≠ 5 → F i = f i := fun i hi h5 => by rw [← hFe, AG_more (AG.rf _) i hi, fr1_hd i hi h5]
  have F5t : tn (F 5) = n + 1 := by rw [F5, tn_of rfl (by omega)]
  have hold : ∀ p k, k < n → m_X5_isInRing_r F k p = m_X5_isInRing_r f k p := fun p k hk => isin_eq (fun w hw => by rw [Fa, fr1_o (by omega) hw])
  have hnew : ∀ p, p < 3 → _ := fun p hp => isin_new (F := F) (n := n) (fl := fl) (p := p) (s := s) (by rw [Fa]; exact fr1_0) (by rw [Fa]; exact fr1_2) hfl hp
  have hr : ∀ p, m_X5_ring_r F p = nI (if m_X5_isInRing_r F n p = 0 then lp_ring f p n 0 0 else lp_ring f p n 0 0 + 1) := fun p => by
    unfold m_X5_ring_r
    rw [F5t, ring_sn, Nat.zero_add, ring_is (f := f) (g := F) n 0 0 (fun k _ hk => hold p k (by omega))]
  have ho : ∀ p, m_X5_oldest_r F p = if m_X5_oldest_r f p = (-6) then (if m_X5_isInRing_r F n p = 0 then (-6) else nI n) else m_X5_oldest_r f p := fun p => by
    unfold m_X5_oldest_r
    rw [F5t, old_sn _ _ _ _ (by omega), Nat.zero_add, old_is (f := f) (g := F) n 0 (fun k _ hk => hold p k (by omega)), h5c]
  have hrf : ∀ p, m_X5_ring_r f p = nI (lp_ring f p n 0 0) := fun p => by unfold m_X5_ring_r; rw [h5c]
  rw [hFe]
  refine ⟨?_, ?_, ?_, fun k hk => ?_, fun i hi => ?_, fun p hp => ?_⟩
  · unfold CM
    rw [hcn, v0, v 1 (by decide) (by decide) (by decide) (by decide) (by omega), pk_us]
    exact ⟨rfl, by omega, hM.2.2⟩
  · rw [v0, Fh 4 (by decide) (by decide)]; exact e4
  · rw [v0, pk_us, F5]
  · rw [v 1 (by decide) (by decide) (by decide) (by decide) (by omega), Fh k (by omega) (by omega)]; exact hS k hk
  · rw [hcn] at hi
    unfold FRM
    rw [v2, v3, v4, v 5 (by decide) (by decide) (by decide) (by decide) (by omega), Fa, Fa, Fa, Fa]
    by_cases e : i = n
    · subst e
      rw [pk_us, pk_us, pk_us, fr1_0, fr1_1, fr1_2]
      refine ⟨rfl, e4, rfl, fun z => ?_, ⟨fl, hfl, rfl⟩, ?_⟩
      · exfalso
        rcases hs with hs | hs
        · rw [hs] at z; exact absurd z (by decide +kernel)
        · rw [hs] at z; exact absurd z (by decide +kernel)
      · rcases hs with hs | hs
        · exact Or.inl hs
        · exact Or.inr (Or.inr hs)
    · rw [pk_un e, pk_un e, pk_un e, fr1_o e (by decide), fr1_o e (by decide), fr1_o e (by decide), fr1_o e (by decide)]
      exact hF i (by omega)
  · obtain ⟨b0, b1, b2, b3⟩ := hq0 p hp
    obtain ⟨n1, n2, n3⟩ := hnew p hp
    unfold SQ
    rw [hr p, ho p]
    by_cases e : p = j
    · subst e
      rw [vq]
      refine ⟨fun w hw => ?_, ?_, ?_, ?_⟩
      · by_cases e6 : w = 6
        · subst e6
          rw [← hFe, g_more_s, fr1_g hp (by decide), ← b0 6 (by decide)]
          exact h9
        · rw [← hFe, g_more_w e6, fr1_g hp hw, hQ w hw e6]
          exact b0 w hw
      · rw [h5, b1, hrf p]
        rcases hs with hs | hs
        · rw [if_pos hs, if_neg (n3 hs hj.symm), nI_add]
        · rw [if_neg (by rw [hs]; decide +kernel), if_pos (n1 hs)]
      · rw [h6, b2]
        rcases hs with hs | hs
        · rw [if_pos hs, if_neg (n3 hs hj.symm)]
        · rw [if_neg (by rw [hs]; decide +kernel), if_pos (n1 hs)]
          split
          · assumption
          · rfl
      · rw [show Q 4 = u (6 + p) 4 from hQ 3 (by decide) (by decide)]
        exact b3
    · have hz : m_X5_isInRing_r F n p = 0 := by
        rcases hs with hs | hs
        · exact n2 hs (by omega)
        · exact n1 hs
      rw [v (6 + p) (by omega) (by omega) (by omega) (by omega) (by omega), hz, if_pos rfl, if_pos rfl, ← hrf p]
      refine ⟨fun w hw => ?_, b1, ?_, b3⟩
      · rw [← hFe, g_more_q e (by decide) hw, fr1_g hp hw]; exact b0 w hw
      · rw [b2]
        split
        · assumption
        · rfl
theorem dC_hd {f : Nat → Int32} {fl j : Nat} (hj : j < 10) (h5 : j ≠ 5) : m_X5_doCome_f f fl j = f j := by
  rw [doCome_eq.2]
  split
  · exact (AG_more (AG.rf _) j hj).trans (fr1_hd j hj h5)
  · exact (AG_more (AG.rf _) j hj).trans (fr1_hd j hj h5)
theorem SIM_come {u : CS} {f : Nat → Int32} {fl : Nat} (h : SIM u f) (hfl : fl ≤ 99) (hc : cn u < 400) : m_X0_receive_r u (nI fl) = m_X5_doCome_r f fl ∧ SIM (m_X0_receive_u u (nI fl)) (m_X5_doCome_f f fl) := by
  have hj3 : fl % 3 < 3 := by omega
  obtain ⟨hC, hw, row, hI, hR⟩ := h
  have h5c := hC.cn5
  obtain ⟨r1, r2⟩ := receive_eq (u := u) (x := nI fl) hj3 (nI_pos (by omega)) ((nI_leI (by omega) (by decide)).mpr hfl) hc (pk_rem (by omega) (by decide) (by decide))
  obtain ⟨d1, d2⟩ := doCome_eq (f := f) (fl := fl)
  have b1 := (hC.2.2.2.2.2 _ hj3).2.1
  have e0 : u 1 0 = f 0 := hC.2.2.2.1 0 (by decide)
  have hI2 : RI (m_X5_doCome_f f fl) row := by
    have hl := hI.le
    refine ⟨(dC_hd (by decide) (by decide)).trans hI.1, fun i y hy => ?_, hI.2.2⟩
    have := (List.getElem?_eq_some_iff.mp hy).1
    exact (dC_hd (by omega) (by omega)).trans (hI.2.1 i y hy)
  have hW2 : WF (m_X5_doCome_f f fl) := WF_doCome hw (by omega)
  refine ⟨by rw [r1, d1, h5c], ?_⟩
  have key : ∀ (s : Int32) (Q : Nat → Int32), Q 3 = u (6 + fl % 3) 3 → SR (recvG (fl % 3) u (nI fl) s Q) row := by
    intro s Q hQ
    refine SR_cong hR (fun q hq => ?_)
    unfold recvG
    by_cases e : q = fl % 3
    · subst e; rw [st2_s, hQ]
    · rw [st2_n (by omega), st2_n (by omega), st2_n (by omega), st2_n (by omega), st2_n (by omega)]
  rw [d2] at hW2 hI2 ⊢
  rw [r2]
  by_cases c1 : m_X5_ring_r f (fl % 3) < f 0
  · rw [if_pos c1] at hW2 hI2 ⊢
    rw [if_pos (by rw [b1, e0]; exact c1)]
    by_cases c2 : u (6 + fl % 3) 6 = (-6)
    · rw [if_pos c2]
      refine ⟨CORE_come hC hfl hc (Or.inl rfl) (lt10 (fun _ => rfl) (fun _ => rfl) (fun _ => rfl) (fun _ => rfl) (fun _ => rfl) (fun _ => rfl) (fun n => absurd rfl n) (fun _ => rfl) (fun _ => rfl) (fun _ => rfl)) (Int32.add_zero _).symm (by rw [if_pos rfl]; rfl) (by rw [if_pos rfl, if_pos c2]; rfl), hW2, row, hI2, key _ _ rfl⟩
    · rw [if_neg c2]
      refine ⟨CORE_come hC hfl hc (Or.inl rfl) (lt10 (fun _ => rfl) (fun _ => rfl) (fun _ => rfl) (fun _ => rfl) (fun _ => rfl) (fun _ => rfl) (fun n => absurd rfl n) (fun _ => rfl) (fun _ => rfl) (fun _ => rfl)) (Int32.add_zero _).symm (by rw [if_pos rfl]; rfl) (by rw [if_pos rfl, if_neg c2]; rfl), hW2, row, hI2, key _ _ rfl⟩
  · rw [if_neg c1] at hW2 hI2 ⊢
    rw [if_neg (by rw [b1, e0]; exact c1)]
    have n20 : ¬ nI 2 = nI 0 := by decide +kernel
    refine ⟨CORE_come hC hfl hc (Or.inr rfl) (lt10 (fun _ => rfl) (fun _ => rfl) (fun _ => rfl) (fun _ => rfl) (fun _ => rfl) (fun _ => rfl) (fun n => absurd rfl n) (fun _ => rfl) (fun _ => rfl) (fun _ => rfl)) rfl (by rw [if_neg n20]; rfl) (by rw [if_neg n20]; rfl), hW2, row, hI2, key _ _ rfl⟩
theorem ST_come {f : Nat → Int32} {fl : Nat} (h : ST f) : ST (m_X5_doCome_f f fl) := by
  refine ST_cong h (fun j hj => dC_hd (by omega) (by omega)) (fun q hq => ?_)
  have e : ∀ (s d : Int32) (w : Nat), w < 10 → w ≠ 6 → m_X5_get_r (m_X5_more_f (fr1 f (tn (f 5)) fl s) (fl % 3) 6 d) q w = m_X5_get_r f q w := by
    intro s d w hw h6
    by_cases e : q = fl % 3
    · subst e; rw [g_more_w h6, fr1_g hq hw]
    · rw [g_more_q e (by decide) hw, fr1_g hq hw]
  rw [doCome_eq.2]
  split
  · exact ⟨e _ _ 0 (by decide) (by decide), e _ _ 1 (by decide) (by decide)⟩
  · exact ⟨e _ _ 0 (by decide) (by decide), e _ _ 1 (by decide) (by decide)⟩
theorem in99 {x : Int32} : m_X5_in_r x.toInt64 0 99 = 0 ↔ (x < 0 ∨ nI 99 < x) := in0 (lo := 0) (up := nI 99) rfl (by decide)
theorem in99_n {x : Int32} (h : ¬ m_X5_in_r x.toInt64 0 99 = 0) : ∃ fl, fl ≤ 99 ∧ x = nI fl := by
  obtain ⟨a1, -, a3⟩ := in_n (a := 0) (b := 99) rfl (by decide) (by decide) h
  exact ⟨tn x, a3, a1⟩
theorem S_come {u : CS} {z f hi : Nat → Int32} {x : Int32} (h : SIM u f) (hs : ST f) : m_X0_receive_r u x = m_X5_come_r f x ∧ SIM (m_X0_receive_u u x) (m_X5_come_f f x) ∧ ST (m_X5_come_f f x) ∧ CHG z f hi (m_X5_come_r f x) (m_X5_come_z z f x) (m_X5_come_f f x) (m_X5_come_hi z f hi x) := by
  have h5c := h.1.cn5
  have hcm := h.1.1.2.1
  rw [m_X5_come_r, m_X5_come_f, m_X5_come_z, m_X5_come_hi]
  by_cases c1 : m_X5_in_r x.toInt64 0 99 = 0
  · rw [if_pos c1, if_pos c1, if_pos c1, if_pos c1, m_X0_receive_r, m_X0_receive_u]
    by_cases c0 : x < 0
    · rw [if_pos c0, if_pos c0]; exact ⟨rfl, h, hs, Or.inl ⟨by decide, rfl, rfl, rfl⟩⟩
    · have c9 : ¬ x ≤ nI 99 := fun e => by
        rcases in99.mp c1 with z | z
        · exact c0 z
        · exact Int32.not_lt.mpr e z
      rw [if_neg c0, if_neg c0, if_neg c9, if_neg c9]; exact ⟨rfl, h, hs, Or.inl ⟨by decide, rfl, rfl, rfl⟩⟩
  · obtain ⟨fl, hfl, rfl⟩ := in99_n c1
    have ef : tn (nI fl) = fl := tn_of rfl (by omega)
    rw [if_neg c1, if_neg c1, if_neg c1, if_neg c1, ef, h5c]
    by_cases c2 : cn u = 400
    · rw [if_pos c2, if_pos c2, if_pos c2, if_pos c2, m_X0_receive_r, m_X0_receive_u, if_neg (nI_pos (by omega)), if_neg (nI_pos (by omega)), if_pos ((nI_leI (by omega) (by decide)).mpr hfl), if_pos ((nI_leI (by omega) (by decide)).mpr hfl), if_neg (by omega), if_neg (by omega)]
      exact ⟨rfl, h, hs, Or.inl ⟨by decide, rfl, rfl, rfl⟩⟩
    · obtain ⟨g1, g2⟩ := SIM_come h hfl (by omega)
      rw [if_neg c2, if_neg c2, if_neg c2, if_neg c2]
      exact ⟨g1, g2, ST_come hs, Or.inr ⟨by rw [doCome_eq.1, h5c]; exact nI_pos (by omega), rfl, rfl⟩⟩
