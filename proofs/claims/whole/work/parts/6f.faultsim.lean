/-! The fault of a text, side by side -/
theorem ff_0 (g : Nat → Int32) (r : Nat) (z : Nat → Int32) : lp_ff g r z (nI 0) = z := by
  cases r with
  | zero => rfl
  | succ r => rw [lp_ff, if_pos (show nI 0 = 0 from rfl)]
theorem ff_z (g : Nat → Int32) (r : Nat) (z : Nat → Int32) {mo : Int32} (h : mo = 0) : lp_ff g r z mo = z := by
  rw [h]
  exact ff_0 g r z
theorem ffr_ok {z : Nat → Int32} {L a : Nat} (h : PC z L a) : m_ffrest_r z = if L ≤ a then (-6) else nI a := by
  rw [m_ffrest_r, if_pos (show z 3 = 0 from h.2.2.1), PC_1 h, PC_2 h]
theorem ffr_bad {z : Nat → Int32} {e : Nat} (h3 : z 3 = nI 1) (h2 : z 2 = nI e) (he : e ≤ 80) : m_ffrest_r z = nI e := by
  rw [m_ffrest_r, if_neg (by rw [h3]; decide +kernel), h2, tn_of rfl (by omega)]
/-- the class reads on, behind an order that ended at a -/
theorem rd_no {z g t : Nat → Int32} {L a : Nat} (hg : AG2 g t L) (h : PC z L a) (ha : 0 < a) (hn : ¬ H t L a (nI 59)) : m_X2_readOrder_r z g = 0 ∧ m_X2_readOrder_z z g = z := by
  obtain ⟨s1, s2⟩ := cs_no hg h hn
  obtain ⟨e1, e2⟩ := coC_eq z g
  have c : ¬ tn (z 2) ≤ 0 := by rw [PC_2 h]; omega
  rw [e1, e2, if_neg c, if_neg c, if_pos s1, if_pos s1, s2]
  exact ⟨rfl, rfl⟩
theorem rd_yes {z g t : Nat → Int32} {L a : Nat} (hg : AG2 g t L) (h : PC z L a) (ha : 0 < a) (hh : H t L a (nI 59)) : m_X2_readOrder_r z g = coC_r (upd (upd z 2 (nI (a + 1))) 8 (nI 1)) g ∧ m_X2_readOrder_z z g = coC_z (upd (upd z 2 (nI (a + 1))) 8 (nI 1)) g ∧ PC (upd (upd z 2 (nI (a + 1))) 8 (nI 1)) L (a + 1) := by
  obtain ⟨s1, s2⟩ := cs_yes hg h hh
  obtain ⟨e1, e2⟩ := coC_eq z g
  have c : ¬ tn (z 2) ≤ 0 := by rw [PC_2 h]; omega
  rw [e1, e2, if_neg c, if_neg c, if_neg s1, if_neg s1, s2]
  exact ⟨rfl, rfl, PC_u (PC_adv h hh.1) (by decide) (by decide) (by decide)⟩
theorem rd_0 {z g : Nat → Int32} {L : Nat} (h : PC z L 0) : m_X2_readOrder_r z g = coC_r (upd z 8 (nI 1)) g ∧ m_X2_readOrder_z z g = coC_z (upd z 8 (nI 1)) g ∧ PC (upd z 8 (nI 1)) L 0 := by
  obtain ⟨e1, e2⟩ := coC_eq z g
  have c : tn (z 2) ≤ 0 := by rw [PC_2 h]; omega
  rw [e1, e2, if_pos c, if_pos c]
  exact ⟨rfl, rfl, PC_u h (by decide) (by decide) (by decide)⟩
theorem ff_sim {g t : Nat → Int32} {L : Nat} (hg : AG2 g t L) : ∀ (r a r2 : Nat) (z zr : Nat → Int32) (mo : Int32), PC z L a → PR zr L a → 0 < a → ¬ mo = 0 → L < a + r → L < a + r2 → m_ffrest_r (lp_ff g r z mo) = lp_ftR t r2 (m_X5_takesOne_z zr t (nI 59)) (m_X5_takesOne_r zr t (nI 59)) ∧ lp_ff g r z mo 1 = nI L ∧ ∀ i, i ≠ 8 → i ≠ 9 → lp_ftZ t r2 (m_X5_takesOne_z zr t (nI 59)) (m_X5_takesOne_r zr t (nI 59)) i = zr i := by
  intro r
  induction r with
  | zero => intro a r2 z zr mo h hr ha hm h1 h2; have := h.2.2.2.1; omega
  | succ r ih =>
    intro a r2 z zr mo h hr ha hm h1 h2
    have hL := h.2.2.2.2
    have haL := h.2.2.2.1
    obtain ⟨s, rfl⟩ : ∃ s, r2 = s + 1 := ⟨r2 - 1, by omega⟩
    rw [lp_ff, if_neg hm]
    by_cases c : H t L a (nI 59)
    · obtain ⟨e1, e2, hp⟩ := rd_yes hg h ha c
      obtain ⟨t1, t2⟩ := rs_yes hr c
      have hr1 := PR_adv hr (b := a + 1) c.1
      rw [e1, e2, t2, lp_ftR, lp_ftZ, if_neg t1, if_neg t1]
      rcases OB t L (a + 1) with ⟨e, k, f1, f2, f3, tm, ho⟩ | ⟨e, ho⟩
      · obtain ⟨l1, l2⟩ := OE_le ho
        obtain ⟨k1, k2, -⟩ := class_ok hg hp rfl ho
        obtain ⟨q1, q2, -⟩ := RO_ok (td := zr) hr1 ho
        rw [if_neg q1, if_neg q1, q2]
        have hr2 : PR (upd (upd (upd zr 8 (nI (a + 1))) 9 k) 8 (nI e)) L e := ⟨hr.1, rfl, l2, hL⟩
        obtain ⟨g1, g2, g3⟩ := ih e s _ _ _ k2 hr2 (by omega) k1 (by omega) (by omega)
        refine ⟨g1, g2, fun i h8 h9 => (g3 i h8 h9).trans ?_⟩
        rw [pk_un h8, pk_un h9, pk_un h8]
      · have hl := BE_le hp.2.2.2.1 ho
        obtain ⟨k1, k2, k3, k4⟩ := class_bad hg hp ho
        obtain ⟨q1, k, q2⟩ := RO_bad hr1 ho
        rw [ff_z g r _ k1, if_pos q1, if_pos q1, q2, ffr_bad k2 k3 (by omega), pk_us, tn_of rfl (by omega)]
        refine ⟨rfl, k4, fun i h8 h9 => ?_⟩
        rw [pk_un h8, pk_un h9, pk_un h8]
    · obtain ⟨e1, e2⟩ := rd_no hg h ha c
      obtain ⟨t1, t2⟩ := rs_no hr c
      rw [e1, e2, t2, lp_ftR, lp_ftZ, if_pos t1, if_pos t1, ff_z g r z rfl, ffr_ok h, m_ftend_r, PR_7 hr, PR_8 hr]
      refine ⟨?_, h.1, fun _ _ _ => rfl⟩
      by_cases cl : L ≤ a
      · rw [if_pos cl, if_pos (by omega)]
      · rw [if_neg cl, if_neg (by omega)]
theorem fault_core {z g zr t : Nat → Int32} {L : Nat} (hg : AG2 g t L) (hL : L ≤ 80) (h1 : z 1 = nI L) (h7 : zr 7 = nI L) : m_X2_firstFault_r z g = m_X5_fault_r zr t ∧ m_X2_firstFault_z z g 1 = nI L ∧ ∀ i, i ≠ 8 → i ≠ 9 → m_X5_fault_z zr t i = zr i := by
  have h0 : PC (m_X2_startReading_z z) L 0 := ⟨h1, rfl, rfl, Nat.zero_le _, hL⟩
  have hr : PR (upd zr 8 (nI 0)) L 0 := ⟨h7, rfl, Nat.zero_le _, hL⟩
  obtain ⟨e1, e2, hp⟩ := rd_0 (g := g) h0
  have n10 : ¬ nI 1 = 0 := by decide +kernel
  rw [m_X2_firstFault_r, m_X2_firstFault_z, m_X5_fault_r, m_X5_fault_z, lp_ff, if_neg n10, e1, e2, lp_ftR, lp_ftZ, if_neg n10, if_neg n10]
  rcases OB t L 0 with ⟨e, k, f1, f2, f3, tm, ho⟩ | ⟨e, ho⟩
  · obtain ⟨l1, l2⟩ := OE_le ho
    obtain ⟨k1, k2, -⟩ := class_ok hg hp rfl ho
    obtain ⟨q1, q2, -⟩ := RO_ok (td := zr) hr ho
    rw [if_neg q1, if_neg q1, q2]
    have hr2 : PR (upd (upd (upd zr 8 (nI 0)) 9 k) 8 (nI e)) L e := ⟨h7, rfl, l2, hL⟩
    obtain ⟨g1, g2, g3⟩ := ff_sim hg 79 e 80 _ _ _ k2 hr2 (by omega) k1 (by omega) (by omega)
    refine ⟨g1, g2, fun i h8 h9 => (g3 i h8 h9).trans ?_⟩
    rw [pk_un h8, pk_un h9, pk_un h8]
  · have hl := BE_le (Nat.zero_le _) ho
    obtain ⟨k1, k2, k3, k4⟩ := class_bad hg hp ho
    obtain ⟨q1, k, q2⟩ := RO_bad hr ho
    rw [ff_z g 79 _ k1, if_pos q1, if_pos q1, q2, ffr_bad k2 k3 (by omega), pk_us, tn_of rfl (by omega)]
    refine ⟨rfl, k4, fun i h8 h9 => ?_⟩
    rw [pk_un h8, pk_un h9, pk_un h8]
theorem PADR.len {z g zr t : Nat → Int32} (h : PADR z g zr t) : z 1 = nI (tn (zr 7)) ∧ zr 7 = nI (tn (zr 7)) ∧ tn (zr 7) ≤ 80 ∧ AG2 g t (tn (zr 7)) := ⟨by rw [h.2.2.1]; exact h.2.1.1.1, h.2.1.1.1, h.2.1.1.2, h.2.2.2⟩
theorem S_fault {z g zr t : Nat → Int32} (h : PADR z g zr t) : m_X2_firstFault_r z g = m_X5_fault_r zr t ∧ PADR (m_X2_firstFault_z z g) g (m_X5_fault_z zr t) t ∧ (∀ i, i ≠ 8 → i ≠ 9 → m_X5_fault_z zr t i = zr i) ∧ ∀ z' : Nat → Int32, z' 7 = zr 7 → m_X5_fault_r z' t = m_X5_fault_r zr t := by
  obtain ⟨h1, h7, hL, hg⟩ := h.len
  obtain ⟨f1, f2, f3⟩ := fault_core hg hL h1 h7
  refine ⟨f1, ⟨PD_X2_firstFault h.1, PT_fault h.2.1, ?_, fun i hi => ?_⟩, f3, fun z' e => ?_⟩
  · rw [f2, f3 7 (by decide) (by decide)]; exact h7.symm
  · rw [f3 7 (by decide) (by decide)] at hi
    exact h.2.2.2 i hi
  · obtain ⟨g1, -, -⟩ := fault_core (zr := z') hg hL h1 (e.trans h7)
    rw [← g1, f1]
