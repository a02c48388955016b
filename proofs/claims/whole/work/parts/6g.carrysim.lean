/-! Orders carried out, side by side -/
theorem OE_k {t : Nat → Int32} {L a e : Nat} {k f1 f2 f3 tm : Int32} (h : OE t L a e k f1 f2 f3 tm) : k = nI 102 ∨ (tm = nI 1 ∧ (k = nI 116 ∨ k = nI 113 ∨ k = nI 109)) := by
  rcases h with ⟨rfl, -⟩ | ⟨rfl, -, -, rfl⟩ | ⟨rfl, -, -, -, -, rfl, -⟩ | ⟨rfl, -, -, -, -, rfl⟩
  · exact Or.inl rfl
  · exact Or.inr ⟨rfl, Or.inl rfl⟩
  · exact Or.inr ⟨rfl, Or.inr (Or.inl rfl)⟩
  · exact Or.inr ⟨rfl, Or.inr (Or.inr rfl)⟩
theorem ci_1 (z : Nat → Int32) (u : CS) (n : Nat) : lp_ci z 1 u n = if m_X4_carryOrder_r u z < 0 then (m_X4_carryOrder_u u z, n, 0) else (m_X4_carryOrder_u u z, n + 1, 1) := by
  rw [lp_ci, lp_ci]
/-- frames of one flow that come one after the other -/
theorem ci_f {z : Nat → Int32} {fl : Nat} (hfl : fl ≤ 99) (h4 : z 4 = nI 102) (h5 : z 5 = nI fl) : ∀ (m : Nat) (u : CS) (f : Nat → Int32) (n : Nat), SIM u f → ST f → SIM (lp_ci z m u n).1 (lp_cf fl m f) ∧ ST (lp_cf fl m f) ∧ (lp_ci z m u n).2.1 = n + lp_cfN fl m f ∧ ((lp_ci z m u n).2.2 = 1 ∧ lp_cfN fl m f = m ∨ (lp_ci z m u n).2.2 = 0 ∧ lp_cfN fl m f < m) := by
  intro m
  induction m with
  | zero => intro u f n h hs; exact ⟨h, hs, rfl, Or.inl ⟨rfl, rfl⟩⟩
  | succ m ih =>
    intro u f n h hs
    have h5c := h.1.cn5
    have hcm := h.1.1.2.1
    have er : m_X4_carryOrder_r u z = m_X0_receive_r u (nI fl) := by rw [m_X4_carryOrder_r, if_pos h4, h5]
    have eu : m_X4_carryOrder_u u z = m_X0_receive_u u (nI fl) := by rw [m_X4_carryOrder_u, if_pos h4, h5]
    rw [lp_ci, lp_cf, lp_cfN, er, eu]
    by_cases c : 400 ≤ tn (f 5)
    · have e1 : m_X0_receive_r u (nI fl) = (-4) := by rw [m_X0_receive_r, if_neg (nI_pos (by omega)), if_pos ((nI_leI (by omega) (by decide)).mpr hfl), if_neg (by omega)]
      have e2 : m_X0_receive_u u (nI fl) = u := by rw [m_X0_receive_u, if_neg (nI_pos (by omega)), if_pos ((nI_leI (by omega) (by decide)).mpr hfl), if_neg (by omega)]
      rw [e1, e2, if_pos (by decide), if_pos c, if_pos c]
      exact ⟨h, hs, rfl, Or.inr ⟨rfl, by omega⟩⟩
    · obtain ⟨g1, g2⟩ := SIM_come h hfl (by omega)
      have nn : ¬ m_X0_receive_r u (nI fl) < 0 := by rw [g1, doCome_eq.1, h5c]; exact nI_pos (by omega)
      obtain ⟨i1, i2, i3, i4⟩ := ih _ _ (n + 1) g2 (ST_come hs)
      rw [if_neg nn, if_neg c, if_neg c]
      refine ⟨i1, i2, by rw [i3]; omega, ?_⟩
      rcases i4 with ⟨j1, j2⟩ | ⟨j1, j2⟩
      · exact Or.inl ⟨j1, by omega⟩
      · exact Or.inr ⟨j1, by omega⟩
theorem k_m1000 : (-1000 : Int32) + nI 1000 = nI 0 := by decide +kernel
theorem order_do {z zr td : Nat → Int32} {u : CS} {f : Nat → Int32} {n : Nat} {k : Int32} (h : SIM u f) (hs : ST f) (hT : TD td) (h4 : z 4 = k) (h9 : zr 9 = k) (h5 : z 5 = td 0) (h102 : k = nI 102 → z 8 = td 1) (h113 : k = nI 113 → z 6 = td 1 ∧ z 7 = td 2) (hk : k = nI 102 ∨ (z 8 = nI 1 ∧ (k = nI 116 ∨ k = nI 113 ∨ k = nI 109))) : SIM (lp_ci z (tn (z 8)) u n).1 (m_X5_carries_f zr f td) ∧ ST (m_X5_carries_f zr f td) ∧ ((m_X5_carries_r zr f td < 0 ∧ (lp_ci z (tn (z 8)) u n).2.2 = 0 ∧ nI (lp_ci z (tn (z 8)) u n).2.1 = nI n + (m_X5_carries_r zr f td + nI 1000)) ∨ (¬ m_X5_carries_r zr f td < 0 ∧ (lp_ci z (tn (z 8)) u n).2.2 = 1 ∧ nI (lp_ci z (tn (z 8)) u n).2.1 = nI n + m_X5_carries_r zr f td)) ∧ (lp_ci z (tn (z 8)) u n).2.1 ≤ n + 99 := by
  obtain ⟨t0, t0'⟩ := hT 0 (by decide)
  obtain ⟨t1, t1'⟩ := hT 1 (by decide)
  obtain ⟨t2, t2'⟩ := hT 2 (by decide)
  have z0 : ∀ x : Int32, x + nI 0 = x := fun x => Int32.add_zero x
  rcases hk with rfl | ⟨h8, hk⟩
  · have e8 : tn (z 8) = tn (td 1) := by rw [h102 rfl]
    obtain ⟨fl, hfl⟩ : ∃ fl, tn (td 0) = fl := ⟨_, rfl⟩
    obtain ⟨m, hm⟩ : ∃ m, tn (td 1) = m := ⟨_, rfl⟩
    rw [hfl] at t0 t0'
    rw [hm] at t1'
    obtain ⟨i1, i2, i3, i4⟩ := ci_f t0' h4 (h5.trans t0) m u f n h hs
    rw [e8, hm, m_X5_carries_f, m_X5_carries_r, if_pos h9, if_pos h9, m_carest_r, hfl, hm, Nat.zero_add, i3]
    refine ⟨i1, i2, ?_, ?_⟩
    · rcases i4 with ⟨j1, j2⟩ | ⟨j1, j2⟩
      · right
        rw [j2, if_pos (Nat.le_refl m)]
        exact ⟨nI_pos (by omega), j1, by rw [nI_add]⟩
      · left
        rw [if_neg (by omega)]
        refine ⟨pk_sneg (by decide) (by omega), j1, ?_⟩
        rw [Int32.sub_add_cancel, nI_add]
    · rcases i4 with ⟨-, j2⟩ | ⟨-, j2⟩ <;> omega
  · have e8 : tn (z 8) = 1 := tn_of h8 (by decide)
    rw [e8, ci_1]
    rcases hk with rfl | rfl | rfl
    · have n1 : ¬ nI 116 = nI 102 := by decide +kernel
      have er : m_X4_carryOrder_r u z = m_X0_passTicks_r u (td 0) := by rw [m_X4_carryOrder_r, h4, if_neg n1, if_pos rfl, h5]
      have eu : m_X4_carryOrder_u u z = m_X0_passTicks_u u (td 0) := by rw [m_X4_carryOrder_u, h4, if_neg n1, if_pos rfl, h5]
      obtain ⟨k1, k2, k3⟩ := pt_eq (x := td 0) h
      rw [er, eu, m_X5_carries_f, m_X5_carries_r, h9, if_neg n1, if_pos rfl, if_neg n1, if_pos rfl, ← t0]
      by_cases c1 : m_X5_areTicks_r (td 0) = 0
      · rw [(k1 c1).1, (k1 c1).2, if_pos (by decide), if_pos c1, if_pos c1]
        exact ⟨h, hs, Or.inl ⟨by decide, rfl, by rw [k_m1000, z0]⟩, by show n ≤ n + 99; omega⟩
      · rw [if_neg c1, if_neg c1]
        by_cases c2 : f 4 + td 0 ≤ nI 9999
        · obtain ⟨q1, q2⟩ := k3 c1 c2
          have hx := (areT_n c1).2.2
          have nn := ticks_nn (n := tn (td 0)) h hs (by omega)
          rw [q1, q2, if_neg nn, if_neg (Int32.not_lt.mpr c2), if_neg (Int32.not_lt.mpr c2)]
          exact ⟨(SIM_ticks _ h).1, (ST_run _ h hs).1, Or.inr ⟨nI_pos (by decide), rfl, (nI_add n 1).symm⟩, by show n + 1 ≤ n + 99; omega⟩
        · obtain ⟨q1, q2⟩ := k2 c1 c2
          rw [q1, q2, if_pos (by decide), if_pos (Int32.not_le.mp c2), if_pos (Int32.not_le.mp c2)]
          exact ⟨h, hs, Or.inl ⟨by decide, rfl, by rw [k_m1000, z0]⟩, by show n ≤ n + 99; omega⟩
    · have n1 : ¬ nI 113 = nI 102 := by decide +kernel
      have n2 : ¬ nI 113 = nI 116 := by decide +kernel
      have n3 : ¬ nI 113 = nI 109 := by decide +kernel
      obtain ⟨h6, h7⟩ := h113 rfl
      have er : m_X4_carryOrder_r u z = m_X0_changeBounds_r u (td 0) (td 1) (td 2) := by rw [m_X4_carryOrder_r, h4, if_neg n1, if_neg n2, if_pos rfl, h5, h6, h7]
      have eu : m_X4_carryOrder_u u z = m_X0_changeBounds_u u (td 0) (td 1) (td 2) := by rw [m_X4_carryOrder_u, h4, if_neg n1, if_neg n2, if_pos rfl, h5, h6, h7]
      rw [er, eu, m_X5_carries_f, m_X5_carries_r, h9, if_neg n1, if_neg n2, if_neg n1, if_neg n2, if_neg n3, if_neg n3, ← t0, ← t1, ← t2]
      by_cases cq : m_X5_isQueue_r (td 0) = 0
      · have cq4 := (isq_eq (td 0)).mpr cq
        rw [m_X0_changeBounds_r, m_X0_changeBounds_u, if_pos cq4, if_pos cq4, if_pos (show (-1 : Int32) < 0 by decide), if_pos cq, if_pos cq]
        exact ⟨h, hs, Or.inl ⟨by decide, rfl, by rw [k_m1000, z0]⟩, by show n ≤ n + 99; omega⟩
      · obtain ⟨j, hj, ej⟩ := isqj5 cq
        have hj0 : tn (td 0) = j := tn_of ej (by omega)
        obtain ⟨k1, k2⟩ := cb_eq (u := u) (c := td 1) (w := td 2) hj
        rw [if_neg cq, if_neg cq, hj0, ej]
        by_cases cb : m_X5_areBounds_r (td 1) (td 2) = 0
        · rw [(k2 cb).1, (k2 cb).2, if_pos (by decide), if_pos cb, if_pos cb]
          exact ⟨h, hs, Or.inl ⟨by decide, rfl, by rw [k_m1000, z0]⟩, by show n ≤ n + 99; omega⟩
        · obtain ⟨b1, wn, b2, b3, b4⟩ := areb_n cb
          have nn : ¬ u (6 + j) 0 < 0 := by
            have e : u (6 + j) 0 = m_X5_get_r f j 0 := (h.1.2.2.2.2.2 j hj).1 0 (by decide)
            rw [e]; exact (hs.2.2 j hj).1
          rw [(k1 cb).1, (k1 cb).2, if_neg nn, if_neg cb, if_neg cb]
          refine ⟨SIM_bounds h hj, ?_, Or.inr ⟨nI_pos (by decide), rfl, (nI_add n 1).symm⟩, by show n + 1 ≤ n + 99; omega⟩
          rw [b2]
          exact ST_bounds hs hj b1 b3 b4
    · have n1 : ¬ nI 109 = nI 102 := by decide +kernel
      have n2 : ¬ nI 109 = nI 116 := by decide +kernel
      have n3 : ¬ nI 109 = nI 113 := by decide +kernel
      have er : m_X4_carryOrder_r u z = m_X0_changeMask_r u (td 0) := by rw [m_X4_carryOrder_r, h4, if_neg n1, if_neg n2, if_neg n3, h5]
      have eu : m_X4_carryOrder_u u z = m_X0_changeMask_u u (td 0) := by rw [m_X4_carryOrder_u, h4, if_neg n1, if_neg n2, if_neg n3, h5]
      rw [er, eu, m_X5_carries_f, m_X5_carries_r, h9, if_neg n1, if_neg n2, if_neg n1, if_neg n2, if_pos rfl, if_pos rfl, ← t0]
      by_cases cq : m_X5_isQueue_r (td 0) = 0
      · have cq4 := (isq_eq (td 0)).mpr cq
        rw [m_X0_changeMask_r, m_X0_changeMask_u, if_pos cq4, if_pos cq4, if_pos (show (-1 : Int32) < 0 by decide), if_pos cq, if_pos cq]
        exact ⟨h, hs, Or.inl ⟨by decide, rfl, by rw [k_m1000, z0]⟩, by show n ≤ n + 99; omega⟩
      · obtain ⟨j, hj, ej⟩ := isqj5 cq
        have hj0 : tn (td 0) = j := tn_of ej (by omega)
        obtain ⟨-, -, -, b3⟩ := h.1.2.2.2.2.2 j hj
        have e3 : u (6 + j) 4 = m_X5_get_r f j 3 := (h.1.2.2.2.2.2 j hj).1 3 (by decide)
        obtain ⟨k1, k2, k3⟩ := cmk_eq hj b3
        rw [if_neg cq, if_neg cq, hj0, ej, k1, k2, if_neg (BB_nn k3)]
        rw [e3] at k3 ⊢
        exact ⟨SIM_mask h hj k3, ST_lays3 hs hj, Or.inr ⟨nI_pos (by decide), rfl, (nI_add n 1).symm⟩, by show n + 1 ≤ n + 99; omega⟩
/-- the class, at the start of an order -/
def caS (g : Nat → Int32) (r : Nat) (y : Nat → Int32) (u : CS) (n : Nat) : (Nat → Int32) × CS × Nat := if coC_r y g = 0 then (coC_z y g, u, n)
    else if (lp_ci (coC_z y g) (tn (coC_z y g 8)) u n).2.2 = 0 then (coC_z y g, (lp_ci (coC_z y g) (tn (coC_z y g 8)) u n).1, (lp_ci (coC_z y g) (tn (coC_z y g 8)) u n).2.1)
    else lp_ca g r (coC_z y g) (lp_ci (coC_z y g) (tn (coC_z y g 8)) u n).1 (lp_ci (coC_z y g) (tn (coC_z y g 8)) u n).2.1
theorem ca_of {g z y : Nat → Int32} {r n : Nat} {u : CS} (e1 : m_X2_readOrder_r z g = coC_r y g) (e2 : m_X2_readOrder_z z g = coC_z y g) : lp_ca g (r + 1) z u n = caS g r y u n := by
  rw [lp_ca, caS, e1, e2]
theorem ca_no {g z t : Nat → Int32} {L a r n : Nat} {u : CS} (hg : AG2 g t L) (h : PC z L a) (ha : 0 < a) (hn : ¬ H t L a (nI 59)) : lp_ca g r z u n = (z, u, n) := by
  cases r with
  | zero => rfl
  | succ r =>
    obtain ⟨e1, e2⟩ := rd_no hg h ha hn
    rw [lp_ca, if_pos e1, e2]
theorem cy_0 (tx : Nat → Int32) (r : Nat) (z td f : Nat → Int32) (n : Int32) : lp_cy tx r z td f n (nI 0) = (z, td, f, n) := by
  cases r with
  | zero => rfl
  | succ r => rw [lp_cy, if_pos (show nI 0 = 0 from rfl)]
theorem ca_sim {g t : Nat → Int32} {L : Nat} (hg : AG2 g t L) : ∀ (r b r2 s : Nat) (y zr1 zr2 td : Nat → Int32) (u : CS) (f : Nat → Int32) (n : Nat), PC y L b → y 8 = nI 1 → PR zr1 L b → PR zr2 L b → lp_ftR t (s + 1) zr2 (nI 1) = (-6) → L < b + r + 2 → L < b + r2 + 2 → L < b + s + 2 → SIM u f → ST f → TD td →
    SIM (caS g r y u n).2.1 (lp_cy t (r2 + 1) zr1 td f (nI n) (nI 1)).2.2.1 ∧ ST (lp_cy t (r2 + 1) zr1 td f (nI n) (nI 1)).2.2.1 ∧ (lp_cy t (r2 + 1) zr1 td f (nI n) (nI 1)).2.2.2 = nI (caS g r y u n).2.2 ∧ (caS g r y u n).2.2 ≤ n + 99 * (r + 1) ∧ TD (lp_cy t (r2 + 1) zr1 td f (nI n) (nI 1)).2.1 ∧ (∀ i, i ≠ 8 → i ≠ 9 → (lp_cy t (r2 + 1) zr1 td f (nI n) (nI 1)).1 i = zr1 i) ∧ ∃ e, e ≤ 80 ∧ (lp_cy t (r2 + 1) zr1 td f (nI n) (nI 1)).1 8 = nI e := by
  intro r
  induction r with
  | zero =>
    intro b r2 s y zr1 zr2 td u f n hp h8 hr1 hr2 hnf l1 l2 l3 h hs hT
    have hL := hp.2.2.2.2
    have n10 : ¬ nI 1 = 0 := by decide +kernel
    rcases OB t L b with ⟨e, k, f1, f2, f3, tm, ho⟩ | ⟨e, ho⟩
    · obtain ⟨o1, o2⟩ := OE_le ho
      omega
    · have hl := BE_le hp.2.2.2.1 ho
      obtain ⟨q1, k, q2⟩ := RO_bad hr2 ho
      rw [lp_ftR, if_neg n10, if_pos q1] at hnf
      exact absurd hnf (k_neg (tn_lt _) (by decide))
  | succ r ih =>
    intro b r2 s y zr1 zr2 td u f n hp h8 hr1 hr2 hnf l1 l2 l3 h hs hT
    have hL := hp.2.2.2.2
    have n10 : ¬ nI 1 = 0 := by decide +kernel
    rcases OB t L b with ⟨e, k, f1, f2, f3, tm, ho⟩ | ⟨e, ho⟩
    · obtain ⟨o1, o2⟩ := OE_le ho
      obtain ⟨c1, c2, c3, c4, c5, c6⟩ := class_ok hg hp h8 ho
      obtain ⟨a1, a2, a3, a4, a5⟩ := RO_ok (td := td) hr1 ho
      obtain ⟨d1, d2, -⟩ := RO_ok (td := td) hr2 ho
      have hPT : PT zr1 := ⟨⟨by rw [PR_7 hr1]; exact hr1.1, by rw [PR_7 hr1]; exact hL⟩, by rw [PR_8 hr1]; exact hr1.2.1, by rw [PR_8 hr1]; have := hr1.2.2.1; omega⟩
      have hT' := TD_readsOrder (z := zr1) (tx := t) hT hPT
      have hk := OE_k ho
      rw [lp_ftR, if_neg n10, if_neg d1, d2] at hnf
      rw [caS, if_neg c1, lp_cy, if_neg n10, a2]
      obtain ⟨Z, hZ⟩ : ∃ Z, coC_z y g = Z := ⟨_, rfl⟩
      obtain ⟨T', hT'e⟩ : ∃ T', m_X5_readsOrder_td zr1 t td = T' := ⟨_, rfl⟩
      obtain ⟨Y, hY⟩ : ∃ Y, upd (upd zr1 9 k) 8 (nI e) = Y := ⟨_, rfl⟩
      obtain ⟨Y2, hY2⟩ : ∃ Y2, upd (upd zr2 9 k) 8 (nI e) = Y2 := ⟨_, rfl⟩
      have Yi : ∀ i, i ≠ 8 → i ≠ 9 → Y i = zr1 i := fun i i8 i9 => by rw [← hY, pk_un i8, pk_un i9]
      have Y8 : Y 8 = nI e := by rw [← hY]; exact pk_us
      have Y9 : Y 9 = k := by rw [← hY]; rfl
      have hrY : PR Y L e := ⟨by rw [Yi 7 (by decide) (by decide)]; exact hr1.1, Y8, o2, hL⟩
      have hrY2 : PR Y2 L e := by rw [← hY2]; exact ⟨hr2.1, rfl, o2, hL⟩
      rw [hZ] at c2 c3 c4 c5 c6 ⊢
      rw [hT'e] at a3 a4 a5 hT' ⊢
      rw [hY]
      rw [hY2] at hnf
      obtain ⟨m1, m2, m3, m4⟩ := order_do (n := n) (zr := Y) h hs hT' c3 Y9 (c4.trans a3.symm) (fun q => c6.trans (a4 q).symm) (fun q => ⟨(c5 q).1.trans (a5 q).1.symm, (c5 q).2.trans (a5 q).2.symm⟩) (by rw [c6]; exact hk)
      obtain ⟨ci, hci⟩ : ∃ ci, lp_ci Z (tn (Z 8)) u n = ci := ⟨_, rfl⟩
      obtain ⟨cr, hcr⟩ : ∃ cr, m_X5_carries_r Y f T' = cr := ⟨_, rfl⟩
      obtain ⟨F, hF⟩ : ∃ F, m_X5_carries_f Y f T' = F := ⟨_, rfl⟩
      rw [hci, hF] at m1
      rw [hF] at m2
      rw [hci, hcr] at m3
      rw [hci] at m4
      rw [hci, hcr, hF]
      rcases m3 with ⟨p1, p2, p3⟩ | ⟨p1, p2, p3⟩
      · rw [if_pos p2, if_pos p1, cy_0]
        exact ⟨m1, m2, p3.symm, by show ci.2.1 ≤ _; omega, hT', Yi, e, by omega, Y8⟩
      · rw [if_neg (by rw [p2]; decide), if_neg p1]
        by_cases ch : H t L e (nI 59)
        · obtain ⟨t1, t2⟩ := rs_yes hrY ch
          obtain ⟨t3, t4⟩ := rs_yes hrY2 ch
          have he := ch.1
          obtain ⟨r3, rfl⟩ : ∃ r3, r2 = r3 + 1 := ⟨r2 - 1, by omega⟩
          obtain ⟨s3, rfl⟩ : ∃ s3, s = s3 + 1 := ⟨s - 1, by omega⟩
          obtain ⟨v1, v2, v3⟩ := rd_yes hg c2 (by omega) ch
          rw [ca_of v1 v2, if_neg t1, t2, ← p3]
          rw [t4, ftR_mo _ _ _ _ t3] at hnf
          obtain ⟨i1, i2, i3, i4, i5, i6, i7⟩ := ih (e + 1) r3 s3 _ _ _ T' ci.1 F ci.2.1 v3 rfl (PR_adv hrY ch.1) (PR_adv hrY2 ch.1) hnf (by omega) (by omega) (by omega) m1 m2 hT'
          exact ⟨i1, i2, i3, by omega, i5, fun i i8 i9 => by rw [i6 i i8 i9, pk_un i8]; exact Yi i i8 i9, i7⟩
        · obtain ⟨t1, t2⟩ := rs_no hrY ch
          rw [ca_no hg c2 (by omega) ch, if_pos t1, t2, cy_0]
          exact ⟨m1, m2, p3.symm, by show ci.2.1 ≤ _; omega, hT', Yi, e, by omega, Y8⟩
    · have hl := BE_le hp.2.2.2.1 ho
      obtain ⟨q1, k, q2⟩ := RO_bad hr2 ho
      rw [lp_ftR, if_neg n10, if_pos q1] at hnf
      exact absurd hnf (k_neg (tn_lt _) (by decide))
theorem PD_ca (g : Nat → Int32) : ∀ (r : Nat) (z : Nat → Int32) (u : CS) (n : Nat), PD z → PD (lp_ca g r z u n).1 := by
  intro r
  induction r with
  | zero => intro z u n h; exact h
  | succ r ih =>
    intro z u n h
    rw [lp_ca]
    split
    · exact PD_X2_readOrder h
    · split
      · exact PD_X2_readOrder h
      · exact ih _ _ _ (PD_X2_readOrder h)
theorem S_carry {z g zr t td : Nat → Int32} {V : Nat → CS} {nx : Nat} {f : Nat → Int32} (h : PADR z g zr t) (hS : SIM (V 0) f) (hs : ST f) (hT : TD td) (hf : m_X5_fault_r zr t = (-6)) :
    SIM (ca_V V nx z g).2.1 (m_X5_carryOut_f zr f t td) ∧ ST (m_X5_carryOut_f zr f t td) ∧ m_X5_carryOut_r zr f t td = nI (ca_V V nx z g).2.2 ∧ (ca_V V nx z g).2.2 ≤ 7920 ∧ TD (m_X5_carryOut_td zr f t td) ∧ PADR (m_X2_clear_z (ca_V V nx z g).1) g (m_X5_carryOut_z zr f t td) t ∧ m_X5_carryOut_z zr f t td 3 = m_X5_changes_z (m_X5_fault_z zr t) 3 := by
  obtain ⟨h1, h7, hL, hg⟩ := h.len
  obtain ⟨f1, f2, f3⟩ := fault_core hg hL h1 h7
  have hPX : PD (m_X2_startReading_z (m_X2_firstFault_z z g)) := PD_X2_startReading (PD_X2_firstFault h.1)
  have hT1 : TD (m_X5_fault_td zr t td) := TD_fault h.2.1 hT
  rw [m_X5_carryOut_f, m_X5_carryOut_r, m_X5_carryOut_td, m_X5_carryOut_z, if_pos hf, if_pos hf, if_pos hf, if_pos hf, cy_all, ca_V, cy_z]
  have f37 := f3 7 (by decide) (by decide)
  rw [m_X5_fault_r] at hf
  obtain ⟨X, hX⟩ : ∃ X, m_X2_firstFault_z z g = X := ⟨_, rfl⟩
  obtain ⟨Y, hY⟩ : ∃ Y, m_X5_fault_z zr t = Y := ⟨_, rfl⟩
  obtain ⟨T1, hT1e⟩ : ∃ T1, m_X5_fault_td zr t td = T1 := ⟨_, rfl⟩
  obtain ⟨L, hLe⟩ : ∃ L, tn (zr 7) = L := ⟨_, rfl⟩
  rw [hX] at f2 hPX ⊢
  rw [hY] at f37 ⊢
  rw [hT1e] at hT1 ⊢
  rw [hLe] at h7 hL hg f2
  clear f1 f3
  have hp0 : PC (m_X2_startReading_z X) L 0 := ⟨f2, rfl, rfl, Nat.zero_le _, hL⟩
  obtain ⟨v1, v2, v3⟩ := rd_0 (g := g) hp0
  obtain ⟨C, hC⟩ : ∃ C, m_X5_changes_z Y = C := ⟨_, rfl⟩
  have c7 : C 7 = nI L := by rw [← hC, changes_7, f37]; exact h7
  rw [hC]
  have hr1 : PR (upd C 8 (nI 0)) L 0 := ⟨c7, rfl, Nat.zero_le _, hL⟩
  have hr2 : PR (upd zr 8 (nI 0)) L 0 := ⟨h7, rfl, Nat.zero_le _, hL⟩
  have e81 : 80 + 1 = 81 := rfl
  have ey8 : upd (m_X2_startReading_z X) 8 (nI 1) 8 = nI 1 := pk_us
  obtain ⟨i1, i2, i3, i4, i5, i6, e, i7, i8⟩ := ca_sim hg 79 0 80 80 (upd (m_X2_startReading_z X) 8 (nI 1)) (upd C 8 (nI 0)) (upd zr 8 (nI 0)) T1 (V 0) f 0 v3 ey8 hr1 hr2 (by rw [e81]; exact hf) (by omega) (by omega) (by omega) hS hs hT1
  have eca : lp_ca g 80 (m_X2_startReading_z X) (V 0) 0 = caS g 79 (upd (m_X2_startReading_z X) 8 (nI 1)) (V 0) 0 := ca_of v1 v2
  have hPD : PD (lp_ca g 80 (m_X2_startReading_z X) (V 0) 0).1 := PD_ca g 80 _ _ _ hPX
  rw [eca] at hPD
  rw [eca]
  rw [e81] at i1 i2 i3 i5 i6 i8
  obtain ⟨R, hR⟩ : ∃ R, lp_cy t 81 (upd C 8 (nI 0)) T1 f (nI 0) (nI 1) = R := ⟨_, rfl⟩
  obtain ⟨K, hK⟩ : ∃ K, caS g 79 (upd (m_X2_startReading_z X) 8 (nI 1)) (V 0) 0 = K := ⟨_, rfl⟩
  rw [hR] at i1 i2 i3 i5 i6 i8 ⊢
  rw [hK] at i1 i3 i4 hPD ⊢
  refine ⟨i1, i2, i3, by omega, i5, ⟨PD_X2_clear hPD, ?_, rfl, fun i hi => ?_⟩, ?_⟩
  · unfold PT
    rw [pk_us, pk_un (by decide), i8, tn_of rfl (by decide), tn_of rfl (by omega)]
    exact ⟨⟨rfl, by decide⟩, rfl, i7⟩
  · rw [pk_us, tn_of rfl (by decide)] at hi
    exact absurd hi (Nat.not_lt_zero i)
  · rw [pk_un (by decide), i6 3 (by decide) (by decide)]
    exact pk_un (by decide)
