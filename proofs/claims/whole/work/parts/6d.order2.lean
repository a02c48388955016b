/-! One order: where it ends, what it says; where it breaks -/
def OE (t : Nat → Int32) (L a e : Nat) (k f1 f2 f3 tm : Int32) : Prop :=
  (k = nI 102 ∧ H t L a (nI 102) ∧ ∃ b, NUM t L (a + 1) f1 b ∧ ((¬ H t L b (nI 42) ∧ e = b ∧ tm = nI 1) ∨ (H t L b (nI 42) ∧ NUM t L (b + 1) tm e))) ∨
  (k = nI 116 ∧ H t L a (nI 116) ∧ NUM t L (a + 1) f1 e ∧ tm = nI 1) ∨
  (k = nI 113 ∧ H t L a (nI 113) ∧ Dg t L (a + 1) ∧ f1 = t (a + 1) - nI 48 ∧ H t L (a + 1 + 1) (nI 61) ∧ tm = nI 1 ∧ ∃ c, NUM t L (a + 1 + 1 + 1) f2 c ∧ H t L c (nI 44) ∧ NUM t L (c + 1) f3 e) ∨
  (k = nI 109 ∧ H t L a (nI 109) ∧ Dg t L (a + 1) ∧ f1 = t (a + 1) - nI 48 ∧ e = a + 1 + 1 ∧ tm = nI 1)
def BE (t : Nat → Int32) (L a e : Nat) : Prop :=
  (H t L a (nI 102) ∧ ((¬ Dg t L (a + 1) ∧ e = a + 1) ∨ ∃ v b, NUM t L (a + 1) v b ∧ H t L b (nI 42) ∧ ¬ Dg t L (b + 1) ∧ e = b + 1)) ∨
  (H t L a (nI 116) ∧ ¬ Dg t L (a + 1) ∧ e = a + 1) ∨
  (H t L a (nI 113) ∧ ((¬ Dg t L (a + 1) ∧ e = a + 1) ∨ (Dg t L (a + 1) ∧ ((¬ H t L (a + 1 + 1) (nI 61) ∧ e = a + 1 + 1) ∨ (H t L (a + 1 + 1) (nI 61) ∧ ((¬ Dg t L (a + 1 + 1 + 1) ∧ e = a + 1 + 1 + 1) ∨ ∃ v c, NUM t L (a + 1 + 1 + 1) v c ∧ ((¬ H t L c (nI 44) ∧ e = c) ∨ (H t L c (nI 44) ∧ ¬ Dg t L (c + 1) ∧ e = c + 1)))))))) ∨
  (H t L a (nI 109) ∧ ¬ Dg t L (a + 1) ∧ e = a + 1) ∨
  (¬ H t L a (nI 102) ∧ ¬ H t L a (nI 116) ∧ ¬ H t L a (nI 113) ∧ ¬ H t L a (nI 109) ∧ e = a)
theorem OB (t : Nat → Int32) (L a : Nat) : (∃ e k f1 f2 f3 tm, OE t L a e k f1 f2 f3 tm) ∨ ∃ e, BE t L a e := by
  by_cases c1 : H t L a (nI 102)
  · by_cases d1 : Dg t L (a + 1)
    · obtain ⟨v, b, hn⟩ := num_ex d1
      by_cases c2 : H t L b (nI 42)
      · by_cases d2 : Dg t L (b + 1)
        · obtain ⟨v2, e, hn2⟩ := num_ex d2
          exact Or.inl ⟨e, _, v, 0, 0, v2, Or.inl ⟨rfl, c1, b, hn, Or.inr ⟨c2, hn2⟩⟩⟩
        · exact Or.inr ⟨_, Or.inl ⟨c1, Or.inr ⟨v, b, hn, c2, d2, rfl⟩⟩⟩
      · exact Or.inl ⟨b, _, v, 0, 0, _, Or.inl ⟨rfl, c1, b, hn, Or.inl ⟨c2, rfl, rfl⟩⟩⟩
    · exact Or.inr ⟨_, Or.inl ⟨c1, Or.inl ⟨d1, rfl⟩⟩⟩
  · by_cases c2 : H t L a (nI 116)
    · by_cases d1 : Dg t L (a + 1)
      · obtain ⟨v, b, hn⟩ := num_ex d1
        exact Or.inl ⟨b, _, v, 0, 0, _, Or.inr (Or.inl ⟨rfl, c2, hn, rfl⟩)⟩
      · exact Or.inr ⟨_, Or.inr (Or.inl ⟨c2, d1, rfl⟩)⟩
    · by_cases c3 : H t L a (nI 113)
      · by_cases d1 : Dg t L (a + 1)
        · by_cases c4 : H t L (a + 1 + 1) (nI 61)
          · by_cases d2 : Dg t L (a + 1 + 1 + 1)
            · obtain ⟨v, c, hn⟩ := num_ex d2
              by_cases c5 : H t L c (nI 44)
              · by_cases d3 : Dg t L (c + 1)
                · obtain ⟨v2, e, hn2⟩ := num_ex d3
                  exact Or.inl ⟨e, _, _, v, v2, _, Or.inr (Or.inr (Or.inl ⟨rfl, c3, d1, rfl, c4, rfl, c, hn, c5, hn2⟩))⟩
                · exact Or.inr ⟨_, Or.inr (Or.inr (Or.inl ⟨c3, Or.inr ⟨d1, Or.inr ⟨c4, Or.inr ⟨v, c, hn, Or.inr ⟨c5, d3, rfl⟩⟩⟩⟩⟩))⟩
              · exact Or.inr ⟨_, Or.inr (Or.inr (Or.inl ⟨c3, Or.inr ⟨d1, Or.inr ⟨c4, Or.inr ⟨v, c, hn, Or.inl ⟨c5, rfl⟩⟩⟩⟩⟩))⟩
            · exact Or.inr ⟨_, Or.inr (Or.inr (Or.inl ⟨c3, Or.inr ⟨d1, Or.inr ⟨c4, Or.inl ⟨d2, rfl⟩⟩⟩⟩))⟩
          · exact Or.inr ⟨_, Or.inr (Or.inr (Or.inl ⟨c3, Or.inr ⟨d1, Or.inl ⟨c4, rfl⟩⟩⟩))⟩
        · exact Or.inr ⟨_, Or.inr (Or.inr (Or.inl ⟨c3, Or.inl ⟨d1, rfl⟩⟩))⟩
      · by_cases c4 : H t L a (nI 109)
        · by_cases d1 : Dg t L (a + 1)
          · exact Or.inl ⟨_, _, _, 0, 0, _, Or.inr (Or.inr (Or.inr ⟨rfl, c4, d1, rfl, rfl, rfl⟩))⟩
          · exact Or.inr ⟨_, Or.inr (Or.inr (Or.inr (Or.inl ⟨c4, d1, rfl⟩)))⟩
        · exact Or.inr ⟨_, Or.inr (Or.inr (Or.inr (Or.inr ⟨c1, c2, c3, c4, rfl⟩)))⟩
theorem OE_le {t : Nat → Int32} {L a e : Nat} {k f1 f2 f3 tm : Int32} (h : OE t L a e k f1 f2 f3 tm) : a + 2 ≤ e ∧ e ≤ L := by
  rcases h with ⟨-, -, b, hn, h2⟩ | ⟨-, -, hn, -⟩ | ⟨-, -, -, -, -, -, c, hn, -, hn2⟩ | ⟨-, -, hd, -, rfl, -⟩
  · have h1 := num_le hn
    rcases h2 with ⟨-, rfl, -⟩ | ⟨-, hn2⟩
    · omega
    · have := num_le hn2; omega
  · have := num_le hn; omega
  · have h1 := num_le hn
    have h2 := num_le hn2
    omega
  · have := hd.1; omega
theorem BE_le {t : Nat → Int32} {L a e : Nat} (ha : a ≤ L) (h : BE t L a e) : e ≤ L := by
  rcases h with ⟨h0, h1 | ⟨v, b, -, h3, -, rfl⟩⟩ | ⟨h0, -, rfl⟩ | ⟨h0, h1⟩ | ⟨h0, -, rfl⟩ | ⟨-, -, -, -, rfl⟩
  · have := h0.1; omega
  · have := h3.1; omega
  · have := h0.1; omega
  · have h0 := h0.1
    rcases h1 with ⟨-, rfl⟩ | ⟨hd, h1⟩
    · omega
    · have hd := hd.1
      rcases h1 with ⟨-, rfl⟩ | ⟨h61, h1⟩
      · omega
      · have h61 := h61.1
        rcases h1 with ⟨-, rfl⟩ | ⟨v, c, hn, h1⟩
        · omega
        · have := num_le hn
          rcases h1 with ⟨-, rfl⟩ | ⟨h44, -, rfl⟩
          · omega
          · have := h44.1; omega
  · have := h0.1; omega
  · exact ha
theorem l116 {t : Nat → Int32} {L a : Nat} (h : H t L a (nI 116)) : ¬ H t L a (nI 102) := H_ne h (by decide +kernel)
theorem l113 {t : Nat → Int32} {L a : Nat} (h : H t L a (nI 113)) : ¬ H t L a (nI 102) ∧ ¬ H t L a (nI 116) := ⟨H_ne h (by decide +kernel), H_ne h (by decide +kernel)⟩
theorem l109 {t : Nat → Int32} {L a : Nat} (h : H t L a (nI 109)) : ¬ H t L a (nI 102) ∧ ¬ H t L a (nI 116) ∧ ¬ H t L a (nI 113) := ⟨H_ne h (by decide +kernel), H_ne h (by decide +kernel), H_ne h (by decide +kernel)⟩
/-! the class: frames -/
section
variable {y g t : Nat → Int32} {L a b c e : Nat} {v v2 v3 : Int32}
theorem rf_1 (hg : AG2 g t L) (h : PC y L a) (hn : NUM t L a v b) (hs : ¬ H t L b (nI 42)) : m_X2_readFrames_z y g = upd (upd (upd y 4 (nI 102)) 2 (nI b)) 5 v := by
  have h2 : PC (upd y 4 (nI 102)) L a := PC_u h (by decide) (by decide) (by decide)
  obtain ⟨n1, n2⟩ := cn_yes hg h2 hn
  have h3 : PC (upd (upd (upd y 4 (nI 102)) 2 (nI b)) 5 v) L b := PC_u (PC_adv h2 (num_le hn).2) (by decide) (by decide) (by decide)
  obtain ⟨s1, s2⟩ := cs_no hg h3 hs
  rw [m_X2_readFrames_z, n1, n2, s2, if_pos s1]
theorem rf_2 (hg : AG2 g t L) (h : PC y L a) (hn : NUM t L a v b) (hs : H t L b (nI 42)) (hn2 : NUM t L (b + 1) v2 e) : m_X2_readFrames_z y g = upd (upd (upd (upd (upd (upd y 4 (nI 102)) 2 (nI b)) 5 v) 2 (nI (b + 1))) 2 (nI e)) 8 v2 := by
  have h2 : PC (upd y 4 (nI 102)) L a := PC_u h (by decide) (by decide) (by decide)
  obtain ⟨n1, n2⟩ := cn_yes hg h2 hn
  have h3 : PC (upd (upd (upd y 4 (nI 102)) 2 (nI b)) 5 v) L b := PC_u (PC_adv h2 (num_le hn).2) (by decide) (by decide) (by decide)
  obtain ⟨s1, s2⟩ := cs_yes hg h3 hs
  have h4 := PC_adv h3 (b := b + 1) hs.1
  obtain ⟨m1, m2⟩ := cn_yes hg h4 hn2
  rw [m_X2_readFrames_z, n1, n2, if_neg s1, s2, m1, m2]
theorem rf_b1 (hg : AG2 g t L) (h : PC y L a) (hn : ¬ Dg t L a) : m_X2_readFrames_z y g = upd (upd (upd y 4 (nI 102)) 3 (nI 1)) 5 (nI 0) := by
  have h2 : PC (upd y 4 (nI 102)) L a := PC_u h (by decide) (by decide) (by decide)
  obtain ⟨n1, n2⟩ := cn_no hg h2 hn
  obtain ⟨s1, s2⟩ := bs (y := upd (upd (upd y 4 (nI 102)) 3 (nI 1)) 5 (nI 0)) (g := g) (c := nI 42) rfl
  rw [m_X2_readFrames_z, n1, n2, s2, if_pos s1]
theorem rf_b2 (hg : AG2 g t L) (h : PC y L a) (hn : NUM t L a v b) (hs : H t L b (nI 42)) (hn2 : ¬ Dg t L (b + 1)) : m_X2_readFrames_z y g = upd (upd (upd (upd (upd (upd y 4 (nI 102)) 2 (nI b)) 5 v) 2 (nI (b + 1))) 3 (nI 1)) 8 (nI 0) := by
  have h2 : PC (upd y 4 (nI 102)) L a := PC_u h (by decide) (by decide) (by decide)
  obtain ⟨n1, n2⟩ := cn_yes hg h2 hn
  have h3 : PC (upd (upd (upd y 4 (nI 102)) 2 (nI b)) 5 v) L b := PC_u (PC_adv h2 (num_le hn).2) (by decide) (by decide) (by decide)
  obtain ⟨s1, s2⟩ := cs_yes hg h3 hs
  have h4 := PC_adv h3 (b := b + 1) hs.1
  obtain ⟨m1, m2⟩ := cn_no hg h4 hn2
  rw [m_X2_readFrames_z, n1, n2, if_neg s1, s2, m1, m2]
/-! .. bounds -/
theorem rb_ok (hg : AG2 g t L) (h : PC y L a) (hd : Dg t L a) (h61 : H t L (a + 1) (nI 61)) (hn : NUM t L (a + 1 + 1) v2 c) (h44 : H t L c (nI 44)) (hn2 : NUM t L (c + 1) v3 e) : m_X2_readBounds_z y g = upd (upd (upd (upd (upd (upd (upd (upd (upd y 4 (nI 113)) 2 (nI (a + 1))) 5 (t a - nI 48)) 2 (nI (a + 1 + 1))) 2 (nI c)) 6 v2) 2 (nI (c + 1))) 2 (nI e)) 7 v3 := by
  have h2 : PC (upd y 4 (nI 113)) L a := PC_u h (by decide) (by decide) (by decide)
  obtain ⟨d1, d2⟩ := cd_yes hg h2 hd
  have h3 : PC (upd (upd (upd y 4 (nI 113)) 2 (nI (a + 1))) 5 (t a - nI 48)) L (a + 1) := PC_u (PC_adv h2 hd.1) (by decide) (by decide) (by decide)
  have m1 := dm_yes hg h3 h61
  have h4 := PC_adv h3 (b := a + 1 + 1) h61.1
  obtain ⟨n1, n2⟩ := cn_yes hg h4 hn
  have h5 := PC_u (i := 6) (x := v2) (PC_adv h4 (num_le hn).2) (by decide) (by decide) (by decide)
  have m2 := dm_yes hg h5 h44
  have h6 := PC_adv h5 (b := c + 1) h44.1
  obtain ⟨k1, k2⟩ := cn_yes hg h6 hn2
  rw [m_X2_readBounds_z, d1, d2, m1, n1, n2, m2, k1, k2]
theorem rb_b1 (hg : AG2 g t L) (h : PC y L a) (hd : ¬ Dg t L a) : m_X2_readBounds_z y g = upd (upd (upd (upd (upd y 4 (nI 113)) 3 (nI 1)) 5 (nI 0)) 6 (nI 0)) 7 (nI 0) := by
  have h2 : PC (upd y 4 (nI 113)) L a := PC_u h (by decide) (by decide) (by decide)
  obtain ⟨d1, d2⟩ := cd_no hg h2 hd
  have e1 := bd (y := upd (upd (upd y 4 (nI 113)) 3 (nI 1)) 5 (nI 0)) (g := g) (c := nI 61) rfl
  have e2 := bn (y := upd (upd (upd y 4 (nI 113)) 3 (nI 1)) 5 (nI 0)) (g := g) rfl
  have e3 := bd (y := upd (upd (upd (upd y 4 (nI 113)) 3 (nI 1)) 5 (nI 0)) 6 (nI 0)) (g := g) (c := nI 44) rfl
  have e4 := bn (y := upd (upd (upd (upd y 4 (nI 113)) 3 (nI 1)) 5 (nI 0)) 6 (nI 0)) (g := g) rfl
  rw [m_X2_readBounds_z, d1, d2, e1, e2.1, e2.2, e3, e4.1, e4.2]
theorem rb_b2 (hg : AG2 g t L) (h : PC y L a) (hd : Dg t L a) (h61 : ¬ H t L (a + 1) (nI 61)) : m_X2_readBounds_z y g = upd (upd (upd (upd (upd (upd y 4 (nI 113)) 2 (nI (a + 1))) 5 (t a - nI 48)) 3 (nI 1)) 6 (nI 0)) 7 (nI 0) := by
  have h2 : PC (upd y 4 (nI 113)) L a := PC_u h (by decide) (by decide) (by decide)
  obtain ⟨d1, d2⟩ := cd_yes hg h2 hd
  have h3 : PC (upd (upd (upd y 4 (nI 113)) 2 (nI (a + 1))) 5 (t a - nI 48)) L (a + 1) := PC_u (PC_adv h2 hd.1) (by decide) (by decide) (by decide)
  have m1 := dm_no hg h3 h61
  have e2 := bn (y := upd (upd (upd (upd y 4 (nI 113)) 2 (nI (a + 1))) 5 (t a - nI 48)) 3 (nI 1)) (g := g) rfl
  have e3 := bd (y := upd (upd (upd (upd (upd y 4 (nI 113)) 2 (nI (a + 1))) 5 (t a - nI 48)) 3 (nI 1)) 6 (nI 0)) (g := g) (c := nI 44) rfl
  have e4 := bn (y := upd (upd (upd (upd (upd y 4 (nI 113)) 2 (nI (a + 1))) 5 (t a - nI 48)) 3 (nI 1)) 6 (nI 0)) (g := g) rfl
  rw [m_X2_readBounds_z, d1, d2, m1, e2.1, e2.2, e3, e4.1, e4.2]
theorem rb_b3 (hg : AG2 g t L) (h : PC y L a) (hd : Dg t L a) (h61 : H t L (a + 1) (nI 61)) (hn : ¬ Dg t L (a + 1 + 1)) : m_X2_readBounds_z y g = upd (upd (upd (upd (upd (upd (upd y 4 (nI 113)) 2 (nI (a + 1))) 5 (t a - nI 48)) 2 (nI (a + 1 + 1))) 3 (nI 1)) 6 (nI 0)) 7 (nI 0) := by
  have h2 : PC (upd y 4 (nI 113)) L a := PC_u h (by decide) (by decide) (by decide)
  obtain ⟨d1, d2⟩ := cd_yes hg h2 hd
  have h3 : PC (upd (upd (upd y 4 (nI 113)) 2 (nI (a + 1))) 5 (t a - nI 48)) L (a + 1) := PC_u (PC_adv h2 hd.1) (by decide) (by decide) (by decide)
  have m1 := dm_yes hg h3 h61
  have h4 := PC_adv h3 (b := a + 1 + 1) h61.1
  obtain ⟨n1, n2⟩ := cn_no hg h4 hn
  have e3 := bd (y := upd (upd (upd (upd (upd (upd y 4 (nI 113)) 2 (nI (a + 1))) 5 (t a - nI 48)) 2 (nI (a + 1 + 1))) 3 (nI 1)) 6 (nI 0)) (g := g) (c := nI 44) rfl
  have e4 := bn (y := upd (upd (upd (upd (upd (upd y 4 (nI 113)) 2 (nI (a + 1))) 5 (t a - nI 48)) 2 (nI (a + 1 + 1))) 3 (nI 1)) 6 (nI 0)) (g := g) rfl
  rw [m_X2_readBounds_z, d1, d2, m1, n1, n2, e3, e4.1, e4.2]
theorem rb_b4 (hg : AG2 g t L) (h : PC y L a) (hd : Dg t L a) (h61 : H t L (a + 1) (nI 61)) (hn : NUM t L (a + 1 + 1) v2 c) (h44 : ¬ H t L c (nI 44)) : m_X2_readBounds_z y g = upd (upd (upd (upd (upd (upd (upd (upd y 4 (nI 113)) 2 (nI (a + 1))) 5 (t a - nI 48)) 2 (nI (a + 1 + 1))) 2 (nI c)) 6 v2) 3 (nI 1)) 7 (nI 0) := by
  have h2 : PC (upd y 4 (nI 113)) L a := PC_u h (by decide) (by decide) (by decide)
  obtain ⟨d1, d2⟩ := cd_yes hg h2 hd
  have h3 : PC (upd (upd (upd y 4 (nI 113)) 2 (nI (a + 1))) 5 (t a - nI 48)) L (a + 1) := PC_u (PC_adv h2 hd.1) (by decide) (by decide) (by decide)
  have m1 := dm_yes hg h3 h61
  have h4 := PC_adv h3 (b := a + 1 + 1) h61.1
  obtain ⟨n1, n2⟩ := cn_yes hg h4 hn
  have h5 := PC_u (i := 6) (x := v2) (PC_adv h4 (num_le hn).2) (by decide) (by decide) (by decide)
  have m2 := dm_no hg h5 h44
  have e4 := bn (y := upd (upd (upd (upd (upd (upd (upd y 4 (nI 113)) 2 (nI (a + 1))) 5 (t a - nI 48)) 2 (nI (a + 1 + 1))) 2 (nI c)) 6 v2) 3 (nI 1)) (g := g) rfl
  rw [m_X2_readBounds_z, d1, d2, m1, n1, n2, m2, e4.1, e4.2]
theorem rb_b5 (hg : AG2 g t L) (h : PC y L a) (hd : Dg t L a) (h61 : H t L (a + 1) (nI 61)) (hn : NUM t L (a + 1 + 1) v2 c) (h44 : H t L c (nI 44)) (hn2 : ¬ Dg t L (c + 1)) : m_X2_readBounds_z y g = upd (upd (upd (upd (upd (upd (upd (upd (upd y 4 (nI 113)) 2 (nI (a + 1))) 5 (t a - nI 48)) 2 (nI (a + 1 + 1))) 2 (nI c)) 6 v2) 2 (nI (c + 1))) 3 (nI 1)) 7 (nI 0) := by
  have h2 : PC (upd y 4 (nI 113)) L a := PC_u h (by decide) (by decide) (by decide)
  obtain ⟨d1, d2⟩ := cd_yes hg h2 hd
  have h3 : PC (upd (upd (upd y 4 (nI 113)) 2 (nI (a + 1))) 5 (t a - nI 48)) L (a + 1) := PC_u (PC_adv h2 hd.1) (by decide) (by decide) (by decide)
  have m1 := dm_yes hg h3 h61
  have h4 := PC_adv h3 (b := a + 1 + 1) h61.1
  obtain ⟨n1, n2⟩ := cn_yes hg h4 hn
  have h5 := PC_u (i := 6) (x := v2) (PC_adv h4 (num_le hn).2) (by decide) (by decide) (by decide)
  have m2 := dm_yes hg h5 h44
  have h6 := PC_adv h5 (b := c + 1) h44.1
  obtain ⟨k1, k2⟩ := cn_no hg h6 hn2
  rw [m_X2_readBounds_z, d1, d2, m1, n1, n2, m2, k1, k2]
end
/-- what the class reads of a good order -/
theorem class_ok {y g t : Nat → Int32} {L a e : Nat} {k f1 f2 f3 tm : Int32} (hg : AG2 g t L) (h : PC y L a) (h8 : y 8 = nI 1) (ho : OE t L a e k f1 f2 f3 tm) : ¬ coC_r y g = 0 ∧ PC (coC_z y g) L e ∧ coC_z y g 4 = k ∧ coC_z y g 5 = f1 ∧ (k = nI 113 → coC_z y g 6 = f2 ∧ coC_z y g 7 = f3) ∧ coC_z y g 8 = tm := by
  have hle := (OE_le ho).2
  have n10 : ¬ nI 1 = 0 := by decide +kernel
  have h1 := h.1
  have h3 := h.2.2.1
  have hL := h.2.2.2.2
  have key : ∀ Z : Nat → Int32, Z 1 = y 1 → Z 2 = nI e → Z 3 = y 3 → PC Z L e := fun Z z1 z2 z3 => ⟨z1.trans h1, z2, z3.trans h3, hle, hL⟩
  have kr : ∀ Z : Nat → Int32, Z 3 = y 3 → ¬ (if Z 3 = 0 then nI 1 else nI 0) = 0 := fun Z z3 => by rw [z3, if_pos (show y 3 = 0 from h3)]; exact n10
  rcases ho with ⟨rfl, hH, b, hn, h2⟩ | ⟨rfl, hH, hn, rfl⟩ | ⟨rfl, hH, hd, rfl, h61, rfl, c, hn, h44, hn2⟩ | ⟨rfl, hH, hd, rfl, rfl, rfl⟩
  · obtain ⟨s1, s2⟩ := cs_yes hg h hH
    have hp := PC_adv h (b := a + 1) hH.1
    have n : ¬ nI 102 = nI 113 := by decide +kernel
    rw [coC_r, coC_z, if_neg s1, if_neg s1, s2, ite_self]
    rcases h2 with ⟨hs, rfl, rfl⟩ | ⟨hs, hn2⟩
    · rw [rf_1 hg hp hn hs]
      exact ⟨kr _ rfl, key _ rfl rfl rfl, rfl, rfl, fun q => absurd q n, h8⟩
    · rw [rf_2 hg hp hn hs hn2]
      exact ⟨kr _ rfl, key _ rfl rfl rfl, rfl, rfl, fun q => absurd q n, rfl⟩
  · obtain ⟨s1, s2⟩ := cs_no hg h (l116 hH)
    obtain ⟨t1, t2⟩ := cs_yes hg h hH
    have hp := PC_u (i := 4) (x := nI 116) (PC_adv h (b := a + 1) hH.1) (by decide) (by decide) (by decide)
    obtain ⟨m1, m2⟩ := cn_yes hg hp hn
    have n : ¬ nI 116 = nI 113 := by decide +kernel
    rw [coC_r, coC_z, if_pos s1, if_pos s1, s2, if_neg t1, if_neg t1, t2, ite_self, m1, m2]
    exact ⟨kr _ rfl, key _ rfl rfl rfl, rfl, rfl, fun q => absurd q n, h8⟩
  · obtain ⟨s1, s2⟩ := cs_no hg h (l113 hH).1
    obtain ⟨s3, s4⟩ := cs_no hg h (l113 hH).2
    obtain ⟨t1, t2⟩ := cs_yes hg h hH
    have hp := PC_adv h (b := a + 1) hH.1
    rw [coC_r, coC_z, if_pos s1, if_pos s1, s2, if_pos s3, if_pos s3, s4, if_neg t1, if_neg t1, t2, ite_self, rb_ok hg hp hd h61 hn h44 hn2]
    exact ⟨kr _ rfl, key _ rfl rfl rfl, rfl, rfl, fun _ => ⟨rfl, rfl⟩, h8⟩
  · obtain ⟨s1, s2⟩ := cs_no hg h (l109 hH).1
    obtain ⟨s3, s4⟩ := cs_no hg h (l109 hH).2.1
    obtain ⟨s5, s6⟩ := cs_no hg h (l109 hH).2.2
    obtain ⟨t1, t2⟩ := cs_yes hg h hH
    have hp := PC_u (i := 4) (x := nI 109) (PC_adv h (b := a + 1) hH.1) (by decide) (by decide) (by decide)
    obtain ⟨m1, m2⟩ := cd_yes hg hp hd
    have n : ¬ nI 109 = nI 113 := by decide +kernel
    rw [coC_r, coC_z, if_pos s1, if_pos s1, s2, if_pos s3, if_pos s3, s4, if_pos s5, if_pos s5, s6, if_neg t1, if_neg t1, t2, ite_self, m1, m2]
    exact ⟨kr _ rfl, key _ rfl rfl rfl, rfl, rfl, fun q => absurd q n, h8⟩
/-- .. and of a broken one -/
theorem class_bad {y g t : Nat → Int32} {L a e : Nat} (hg : AG2 g t L) (h : PC y L a) (ho : BE t L a e) : coC_r y g = 0 ∧ coC_z y g 3 = nI 1 ∧ coC_z y g 2 = nI e ∧ coC_z y g 1 = nI L := by
  have n10 : ¬ nI 1 = 0 := by decide +kernel
  have h1 := h.1
  have key : ∀ Z : Nat → Int32, Z 1 = y 1 → Z 2 = nI e → Z 3 = nI 1 → (if Z 3 = 0 then nI 1 else nI 0) = 0 ∧ Z 3 = nI 1 ∧ Z 2 = nI e ∧ Z 1 = nI L := fun Z z1 z2 z3 => ⟨by rw [z3, if_neg n10]; rfl, z3, z2, z1.trans h1⟩
  rcases ho with ⟨hH, ⟨hn, rfl⟩ | ⟨v, b, hn, hs, hn2, rfl⟩⟩ | ⟨hH, hn, rfl⟩ | ⟨hH, hb⟩ | ⟨hH, hn, rfl⟩ | ⟨c1, c2, c3, c4, rfl⟩
  · obtain ⟨s1, s2⟩ := cs_yes hg h hH
    have hp := PC_adv h (b := a + 1) hH.1
    rw [coC_r, coC_z, if_neg s1, if_neg s1, s2, ite_self, rf_b1 hg hp hn]
    exact key _ rfl rfl rfl
  · obtain ⟨s1, s2⟩ := cs_yes hg h hH
    have hp := PC_adv h (b := a + 1) hH.1
    rw [coC_r, coC_z, if_neg s1, if_neg s1, s2, ite_self, rf_b2 hg hp hn hs hn2]
    exact key _ rfl rfl rfl
  · obtain ⟨s1, s2⟩ := cs_no hg h (l116 hH)
    obtain ⟨t1, t2⟩ := cs_yes hg h hH
    have hp := PC_u (i := 4) (x := nI 116) (PC_adv h (b := a + 1) hH.1) (by decide) (by decide) (by decide)
    obtain ⟨m1, m2⟩ := cn_no hg hp hn
    rw [coC_r, coC_z, if_pos s1, if_pos s1, s2, if_neg t1, if_neg t1, t2, ite_self, m1, m2]
    exact key (upd (upd (upd (upd y 2 (nI (a + 1))) 4 (nI 116)) 3 (nI 1)) 5 (nI 0)) rfl rfl rfl
  · obtain ⟨s1, s2⟩ := cs_no hg h (l113 hH).1
    obtain ⟨s3, s4⟩ := cs_no hg h (l113 hH).2
    obtain ⟨t1, t2⟩ := cs_yes hg h hH
    have hp := PC_adv h (b := a + 1) hH.1
    rw [coC_r, coC_z, if_pos s1, if_pos s1, s2, if_pos s3, if_pos s3, s4, if_neg t1, if_neg t1, t2, ite_self]
    rcases hb with ⟨hn, rfl⟩ | ⟨hd, ⟨h61, rfl⟩ | ⟨h61, ⟨hn, rfl⟩ | ⟨v, c, hn, ⟨h44, rfl⟩ | ⟨h44, hn2, rfl⟩⟩⟩⟩
    · rw [rb_b1 hg hp hn]; exact key _ rfl rfl rfl
    · rw [rb_b2 hg hp hd h61]; exact key _ rfl rfl rfl
    · rw [rb_b3 hg hp hd h61 hn]; exact key _ rfl rfl rfl
    · rw [rb_b4 hg hp hd h61 hn h44]; exact key _ rfl rfl rfl
    · rw [rb_b5 hg hp hd h61 hn h44 hn2]; exact key _ rfl rfl rfl
  · obtain ⟨s1, s2⟩ := cs_no hg h (l109 hH).1
    obtain ⟨s3, s4⟩ := cs_no hg h (l109 hH).2.1
    obtain ⟨s5, s6⟩ := cs_no hg h (l109 hH).2.2
    obtain ⟨t1, t2⟩ := cs_yes hg h hH
    have hp := PC_u (i := 4) (x := nI 109) (PC_adv h (b := a + 1) hH.1) (by decide) (by decide) (by decide)
    obtain ⟨m1, m2⟩ := cd_no hg hp hn
    rw [coC_r, coC_z, if_pos s1, if_pos s1, s2, if_pos s3, if_pos s3, s4, if_pos s5, if_pos s5, s6, if_neg t1, if_neg t1, t2, ite_self, m1, m2]
    exact key (upd (upd (upd (upd y 2 (nI (a + 1))) 4 (nI 109)) 3 (nI 1)) 5 (nI 0)) rfl rfl rfl
  · obtain ⟨s1, s2⟩ := cs_no hg h c1
    obtain ⟨s3, s4⟩ := cs_no hg h c2
    obtain ⟨s5, s6⟩ := cs_no hg h c3
    obtain ⟨s7, s8⟩ := cs_no hg h c4
    rw [coC_r, coC_z, if_pos s1, if_pos s1, s2, if_pos s3, if_pos s3, s4, if_pos s5, if_pos s5, s6, if_pos s7, if_pos s7, s8]
    exact ⟨rfl, rfl, h.2.1, h1⟩
