/-! One order, as the reference reads it -/
theorem ref_ok {y t td : Nat → Int32} {L a e : Nat} {k f1 f2 f3 tm : Int32} (h : PR y L a) (ho : OE t L a e k f1 f2 f3 tm) : ¬ coR_r y t = 0 ∧ coR_z y t = upd y 8 (nI e) ∧ coR_td y t td 0 = f1 ∧ (k = nI 102 → coR_td y t td 1 = tm) ∧ (k = nI 113 → coR_td y t td 1 = f2 ∧ coR_td y t td 2 = f3) := by
  have n10 : ¬ nI 1 = 0 := by decide +kernel
  rcases ho with ⟨rfl, hH, b, hn, h2⟩ | ⟨rfl, hH, hn, rfl⟩ | ⟨rfl, hH, hd, rfl, h61, rfl, c, hn, h44, hn2⟩ | ⟨rfl, hH, hd, rfl, rfl, rfl⟩
  · have s := rs_yes h hH
    have hp := PR_adv h (b := a + 1) hH.1
    have n1 := rn_2 (td := td) (w := 0) hp hn
    have hp2 := PR_adv h (b := b) (num_le hn).2
    have n : ¬ nI 102 = nI 113 := by decide +kernel
    rcases h2 with ⟨hs, rfl, rfl⟩ | ⟨hs, hn2⟩
    · have s2 := rs_no hp2 hs
      have e1 : coR_r y t = nI 1 := by rw [coR_r, if_neg s.1, s.2, if_neg n1.1, n1.2.1, upd_upd, if_pos s2.1]
      have e2 : coR_z y t = upd y 8 (nI e) := by rw [coR_z, if_neg s.1, s.2, if_neg n1.1, n1.2.1, upd_upd, if_pos s2.1, s2.2]
      have e3 : coR_td y t td = upd (upd td 0 f1) 1 (nI 1) := by rw [coR_td, if_neg s.1, s.2, if_neg n1.1, n1.2.1, upd_upd, if_pos s2.1, n1.2.2]
      rw [e1, e2, e3]
      exact ⟨n10, rfl, rfl, fun _ => rfl, fun q => absurd q n⟩
    · have s2 := rs_yes hp2 hs
      have hp3 := PR_adv h (b := b + 1) hs.1
      have n2 := rn_2 (td := upd (upd td 0 f1) 1 (nI 1)) (w := 1) hp3 hn2
      have e1 : coR_r y t = nI 1 := by rw [coR_r, if_neg s.1, s.2, if_neg n1.1, n1.2.1, upd_upd, if_neg s2.1, s2.2, upd_upd, if_neg n2.1]
      have e2 : coR_z y t = upd y 8 (nI e) := by rw [coR_z, if_neg s.1, s.2, if_neg n1.1, n1.2.1, upd_upd, if_neg s2.1, s2.2, upd_upd, if_neg n2.1, n2.2.1, upd_upd]
      have e3 : coR_td y t td = upd (upd (upd td 0 f1) 1 (nI 1)) 1 tm := by rw [coR_td, if_neg s.1, s.2, if_neg n1.1, n1.2.1, upd_upd, if_neg s2.1, s2.2, upd_upd, if_neg n2.1, n1.2.2, n2.2.2]
      rw [e1, e2, e3]
      exact ⟨n10, rfl, rfl, fun _ => rfl, fun q => absurd q n⟩
  · have s1 := rs_no h (l116 hH)
    have s := rs_yes h hH
    have hp := PR_adv h (b := a + 1) hH.1
    have n1 := rn_2 (td := td) (w := 0) hp hn
    have n : ¬ nI 116 = nI 113 := by decide +kernel
    have m : ¬ nI 116 = nI 102 := by decide +kernel
    have e1 : ¬ coR_r y t = 0 := by rw [coR_r, if_pos s1.1, s1.2, if_neg s.1, s.2]; exact n1.1
    have e2 : coR_z y t = upd y 8 (nI e) := by rw [coR_z, if_pos s1.1, s1.2, if_neg s.1, s.2, n1.2.1, upd_upd]
    have e3 : coR_td y t td = upd td 0 f1 := by rw [coR_td, if_pos s1.1, s1.2, if_neg s.1, s.2, n1.2.2]
    rw [e2, e3]
    exact ⟨e1, rfl, rfl, fun q => absurd q m, fun q => absurd q n⟩
  · have s1 := rs_no h (l113 hH).1
    have s2 := rs_no h (l113 hH).2
    have s := rs_yes h hH
    have hp := PR_adv h (b := a + 1) hH.1
    have n1 := rn_1 (td := td) (w := 0) hp hd
    have hp2 := PR_adv h (b := a + 1 + 1) hd.1
    have t1 := rs_yes hp2 h61
    have hp3 := PR_adv h (b := a + 1 + 1 + 1) h61.1
    have n2 := rn_2 (td := upd td 0 (t (a + 1) - nI 48)) (w := 1) hp3 hn
    have hp4 := PR_adv h (b := c) (num_le hn).2
    have t2 := rs_yes hp4 h44
    have hp5 := PR_adv h (b := c + 1) h44.1
    have n3 := rn_2 (td := upd (upd td 0 (t (a + 1) - nI 48)) 1 f2) (w := 2) hp5 hn2
    have m : ¬ nI 113 = nI 102 := by decide +kernel
    have e1 : coR_r y t = nI 1 := by rw [coR_r, if_pos s1.1, s1.2, if_pos s2.1, s2.2, if_neg s.1, s.2, if_neg n1.1, n1.2.1, upd_upd, if_neg t1.1, t1.2, upd_upd, if_neg n2.1, n2.2.1, upd_upd, if_neg t2.1, t2.2, upd_upd, if_neg n3.1]
    have e2 : coR_z y t = upd y 8 (nI e) := by rw [coR_z, if_pos s1.1, s1.2, if_pos s2.1, s2.2, if_neg s.1, s.2, if_neg n1.1, n1.2.1, upd_upd, if_neg t1.1, t1.2, upd_upd, if_neg n2.1, n2.2.1, upd_upd, if_neg t2.1, t2.2, upd_upd, if_neg n3.1, n3.2.1, upd_upd]
    have e3 : coR_td y t td = upd (upd (upd td 0 (t (a + 1) - nI 48)) 1 f2) 2 f3 := by rw [coR_td, if_pos s1.1, s1.2, if_pos s2.1, s2.2, if_neg s.1, s.2, if_neg n1.1, n1.2.1, upd_upd, if_neg t1.1, t1.2, upd_upd, if_neg n2.1, n2.2.1, upd_upd, if_neg t2.1, t2.2, upd_upd, if_neg n3.1, n1.2.2, n2.2.2, n3.2.2]
    rw [e1, e2, e3]
    exact ⟨n10, rfl, rfl, fun q => absurd q m, fun _ => ⟨rfl, rfl⟩⟩
  · have s1 := rs_no h (l109 hH).1
    have s2 := rs_no h (l109 hH).2.1
    have s3 := rs_no h (l109 hH).2.2
    have s := rs_yes h hH
    have hp := PR_adv h (b := a + 1) hH.1
    have n1 := rn_1 (td := td) (w := 0) hp hd
    have n : ¬ nI 109 = nI 113 := by decide +kernel
    have m : ¬ nI 109 = nI 102 := by decide +kernel
    have e1 : coR_r y t = nI 1 := by rw [coR_r, if_pos s1.1, s1.2, if_pos s2.1, s2.2, if_pos s3.1, s3.2, if_neg s.1, s.2, if_neg n1.1]
    have e2 : coR_z y t = upd y 8 (nI (a + 1 + 1)) := by rw [coR_z, if_pos s1.1, s1.2, if_pos s2.1, s2.2, if_pos s3.1, s3.2, if_neg s.1, s.2, if_neg n1.1, n1.2.1, upd_upd]
    have e3 : coR_td y t td = upd td 0 (t (a + 1) - nI 48) := by rw [coR_td, if_pos s1.1, s1.2, if_pos s2.1, s2.2, if_pos s3.1, s3.2, if_neg s.1, s.2, if_neg n1.1, n1.2.2]
    rw [e1, e2, e3]
    exact ⟨n10, rfl, rfl, fun q => absurd q m, fun q => absurd q n⟩
theorem ref_bad {y t : Nat → Int32} {L a e : Nat} (h : PR y L a) (ho : BE t L a e) : coR_r y t = 0 ∧ coR_z y t = upd y 8 (nI e) := by
  rcases ho with ⟨hH, ⟨hn, rfl⟩ | ⟨v, b, hn, hs, hn2, rfl⟩⟩ | ⟨hH, hn, rfl⟩ | ⟨hH, hb⟩ | ⟨hH, hn, rfl⟩ | ⟨c1, c2, c3, c4, rfl⟩
  · have s := rs_yes h hH
    have hp := PR_adv h (b := a + 1) hH.1
    have n1 := rn_no (td := y) (w := 0) (dg := nI 2) hp hn
    have e1 : coR_r y t = nI 0 := by rw [coR_r, if_neg s.1, s.2, if_pos n1.1]
    have e2 : coR_z y t = upd y 8 (nI (a + 1)) := by rw [coR_z, if_neg s.1, s.2, if_pos n1.1, n1.2.1]
    exact ⟨e1, e2⟩
  · have s := rs_yes h hH
    have hp := PR_adv h (b := a + 1) hH.1
    have n1 := rn_2 (td := y) (w := 0) hp hn
    have hp2 := PR_adv h (b := b) (num_le hn).2
    have s2 := rs_yes hp2 hs
    have hp3 := PR_adv h (b := b + 1) hs.1
    have n2 := rn_no (td := y) (w := 0) (dg := nI 2) hp3 hn2
    have e1 : coR_r y t = nI 0 := by rw [coR_r, if_neg s.1, s.2, if_neg n1.1, n1.2.1, upd_upd, if_neg s2.1, s2.2, upd_upd, if_pos n2.1]
    have e2 : coR_z y t = upd y 8 (nI (b + 1)) := by rw [coR_z, if_neg s.1, s.2, if_neg n1.1, n1.2.1, upd_upd, if_neg s2.1, s2.2, upd_upd, if_pos n2.1, n2.2.1]
    exact ⟨e1, e2⟩
  · have s1 := rs_no h (l116 hH)
    have s := rs_yes h hH
    have hp := PR_adv h (b := a + 1) hH.1
    have n1 := rn_no (td := y) (w := 0) (dg := nI 2) hp hn
    have e1 : coR_r y t = 0 := by rw [coR_r, if_pos s1.1, s1.2, if_neg s.1, s.2]; exact n1.1
    have e2 : coR_z y t = upd y 8 (nI (a + 1)) := by rw [coR_z, if_pos s1.1, s1.2, if_neg s.1, s.2, n1.2.1]
    exact ⟨e1, e2⟩
  · have s1 := rs_no h (l113 hH).1
    have s2 := rs_no h (l113 hH).2
    have s := rs_yes h hH
    have hp := PR_adv h (b := a + 1) hH.1
    rcases hb with ⟨hn, rfl⟩ | ⟨hd, hb⟩
    · have n1 := rn_no (td := y) (w := 0) (dg := nI 1) hp hn
      have e1 : coR_r y t = nI 0 := by rw [coR_r, if_pos s1.1, s1.2, if_pos s2.1, s2.2, if_neg s.1, s.2, if_pos n1.1]
      have e2 : coR_z y t = upd y 8 (nI (a + 1)) := by rw [coR_z, if_pos s1.1, s1.2, if_pos s2.1, s2.2, if_neg s.1, s.2, if_pos n1.1, n1.2.1]
      exact ⟨e1, e2⟩
    · have n1 := rn_1 (td := y) (w := 0) hp hd
      have hp2 := PR_adv h (b := a + 1 + 1) hd.1
      rcases hb with ⟨h61, rfl⟩ | ⟨h61, hb⟩
      · have t1 := rs_no hp2 h61
        have e1 : coR_r y t = nI 0 := by rw [coR_r, if_pos s1.1, s1.2, if_pos s2.1, s2.2, if_neg s.1, s.2, if_neg n1.1, n1.2.1, upd_upd, if_pos t1.1]
        have e2 : coR_z y t = upd y 8 (nI (a + 1 + 1)) := by rw [coR_z, if_pos s1.1, s1.2, if_pos s2.1, s2.2, if_neg s.1, s.2, if_neg n1.1, n1.2.1, upd_upd, if_pos t1.1, t1.2]
        exact ⟨e1, e2⟩
      · have t1 := rs_yes hp2 h61
        have hp3 := PR_adv h (b := a + 1 + 1 + 1) h61.1
        rcases hb with ⟨hn, rfl⟩ | ⟨v, c, hn, hb⟩
        · have n2 := rn_no (td := y) (w := 0) (dg := nI 2) hp3 hn
          have e1 : coR_r y t = nI 0 := by rw [coR_r, if_pos s1.1, s1.2, if_pos s2.1, s2.2, if_neg s.1, s.2, if_neg n1.1, n1.2.1, upd_upd, if_neg t1.1, t1.2, upd_upd, if_pos n2.1]
          have e2 : coR_z y t = upd y 8 (nI (a + 1 + 1 + 1)) := by rw [coR_z, if_pos s1.1, s1.2, if_pos s2.1, s2.2, if_neg s.1, s.2, if_neg n1.1, n1.2.1, upd_upd, if_neg t1.1, t1.2, upd_upd, if_pos n2.1, n2.2.1]
          exact ⟨e1, e2⟩
        · have n2 := rn_2 (td := y) (w := 0) hp3 hn
          have hp4 := PR_adv h (b := c) (num_le hn).2
          rcases hb with ⟨h44, rfl⟩ | ⟨h44, hn2, rfl⟩
          · have t2 := rs_no hp4 h44
            have e1 : coR_r y t = nI 0 := by rw [coR_r, if_pos s1.1, s1.2, if_pos s2.1, s2.2, if_neg s.1, s.2, if_neg n1.1, n1.2.1, upd_upd, if_neg t1.1, t1.2, upd_upd, if_neg n2.1, n2.2.1, upd_upd, if_pos t2.1]
            have e2 : coR_z y t = upd y 8 (nI e) := by rw [coR_z, if_pos s1.1, s1.2, if_pos s2.1, s2.2, if_neg s.1, s.2, if_neg n1.1, n1.2.1, upd_upd, if_neg t1.1, t1.2, upd_upd, if_neg n2.1, n2.2.1, upd_upd, if_pos t2.1, t2.2]
            exact ⟨e1, e2⟩
          · have t2 := rs_yes hp4 h44
            have hp5 := PR_adv h (b := c + 1) h44.1
            have n3 := rn_no (td := y) (w := 0) (dg := nI 2) hp5 hn2
            have e1 : coR_r y t = nI 0 := by rw [coR_r, if_pos s1.1, s1.2, if_pos s2.1, s2.2, if_neg s.1, s.2, if_neg n1.1, n1.2.1, upd_upd, if_neg t1.1, t1.2, upd_upd, if_neg n2.1, n2.2.1, upd_upd, if_neg t2.1, t2.2, upd_upd, if_pos n3.1]
            have e2 : coR_z y t = upd y 8 (nI (c + 1)) := by rw [coR_z, if_pos s1.1, s1.2, if_pos s2.1, s2.2, if_neg s.1, s.2, if_neg n1.1, n1.2.1, upd_upd, if_neg t1.1, t1.2, upd_upd, if_neg n2.1, n2.2.1, upd_upd, if_neg t2.1, t2.2, upd_upd, if_pos n3.1, n3.2.1]
            exact ⟨e1, e2⟩
  · have s1 := rs_no h (l109 hH).1
    have s2 := rs_no h (l109 hH).2.1
    have s3 := rs_no h (l109 hH).2.2
    have s := rs_yes h hH
    have hp := PR_adv h (b := a + 1) hH.1
    have n1 := rn_no (td := y) (w := 0) (dg := nI 1) hp hn
    have e1 : coR_r y t = nI 0 := by rw [coR_r, if_pos s1.1, s1.2, if_pos s2.1, s2.2, if_pos s3.1, s3.2, if_neg s.1, s.2, if_pos n1.1]
    have e2 : coR_z y t = upd y 8 (nI (a + 1)) := by rw [coR_z, if_pos s1.1, s1.2, if_pos s2.1, s2.2, if_pos s3.1, s3.2, if_neg s.1, s.2, if_pos n1.1, n1.2.1]
    exact ⟨e1, e2⟩
  · have s1 := rs_no h c1
    have s2 := rs_no h c2
    have s3 := rs_no h c3
    have s4 := rs_no h c4
    have e1 : coR_r y t = nI 0 := by rw [coR_r, if_pos s1.1, s1.2, if_pos s2.1, s2.2, if_pos s3.1, s3.2, if_pos s4.1]
    have e2 : coR_z y t = upd y 8 (nI e) := by
      have e3 : upd y 8 (nI e) = y := upd_id h.2.1
      rw [coR_z, if_pos s1.1, s1.2, if_pos s2.1, s2.2, if_pos s3.1, s3.2, if_pos s4.1, s4.2, e3]
    exact ⟨e1, e2⟩
/-- the reference reads an order at a: its letter first -/
theorem RO_ok {z t td : Nat → Int32} {L a e : Nat} {k f1 f2 f3 tm : Int32} (h : PR z L a) (ho : OE t L a e k f1 f2 f3 tm) : ¬ m_X5_readsOrder_r z t = 0 ∧ m_X5_readsOrder_z z t = upd (upd z 9 k) 8 (nI e) ∧ m_X5_readsOrder_td z t td 0 = f1 ∧ (k = nI 102 → m_X5_readsOrder_td z t td 1 = tm) ∧ (k = nI 113 → m_X5_readsOrder_td z t td 1 = f2 ∧ m_X5_readsOrder_td z t td 2 = f3) := by
  have hl := OE_le ho
  have hk : t a = k := by
    rcases ho with ⟨rfl, hH, -⟩ | ⟨rfl, hH, -⟩ | ⟨rfl, hH, -⟩ | ⟨rfl, hH, -⟩ <;> exact hH.2
  have c : ¬ tn (z 7) ≤ tn (z 8) := by rw [PR_7 h, PR_8 h]; omega
  rw [coR_r_eq, coR_z_eq, coR_td_eq, if_neg c, if_neg c, if_neg c, PR_8 h, hk]
  exact ref_ok (y := upd z 9 k) h ho
theorem RO_bad {z t : Nat → Int32} {L a e : Nat} (h : PR z L a) (ho : BE t L a e) : m_X5_readsOrder_r z t = 0 ∧ ∃ k, m_X5_readsOrder_z z t = upd (upd z 9 k) 8 (nI e) := by
  rw [coR_r_eq, coR_z_eq]
  by_cases c : tn (z 7) ≤ tn (z 8)
  · rw [if_pos c, if_pos c]
    have r := ref_bad (y := upd z 9 (nI 0)) h ho
    exact ⟨r.1, _, r.2⟩
  · rw [if_neg c, if_neg c]
    have r := ref_bad (y := upd z 9 (t (tn (z 8)))) h ho
    exact ⟨r.1, _, r.2⟩
