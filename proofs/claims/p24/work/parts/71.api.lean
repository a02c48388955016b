/-! What the law asks of one object, call by call -/
theorem WL.okc {u : CS} {T : Nat} (h : WL u T) : OKC u := ⟨h.1, (h.2.2.2.2.1 0 (by decide)).1.1, (h.2.2.2.2.1 1 (by decide)).1.1, (h.2.2.2.2.1 2 (by decide)).1.1⟩
/-- an object whose card is u, whose slots hold S and are told by sv -/
def AT (o : OB) (u : CS) (S : Nat → CS) (sv : Nat → Int32) : Prop := oN o < 7 ∧ oS o ≤ 6 ∧ PD (oZ o) ∧ oV o 0 = u ∧ (∀ i, i < 2 → oV o (2 + i) = S i) ∧ oSv o = sv
def SL (v : Int32) (u : CS) (T C : Nat) : Prop := v = nI 0 ∨ (v = nI 1 ∧ (∃ t, t ≤ T ∧ WL u t) ∧ cn u ≤ C)
/-- all is well on the card and in the slots, the time is T at most, C frames have come at most -/
def GD (u : CS) (S : Nat → CS) (sv : Nat → Int32) (T C : Nat) : Prop := ((∃ t, t ≤ T ∧ WL u t) ∧ cn u ≤ C) ∧ ∀ i, i < 2 → SL (sv i) (S i) T C
theorem SL.le {v : Int32} {u : CS} {T C T' C' : Nat} (h : SL v u T C) (hT : T ≤ T') (hC : C ≤ C') : SL v u T' C' := by
  rcases h with h | ⟨h1, ⟨t, h2, h3⟩, h4⟩
  · exact Or.inl h
  · exact Or.inr ⟨h1, ⟨t, by omega, h3⟩, by omega⟩
theorem GD.to {u u' : CS} {S : Nat → CS} {sv : Nat → Int32} {T C T' C' t : Nat} (h : GD u S sv T C) (hw : WL u' t) (ht : t ≤ T') (hc : cn u' ≤ C') (hT : T ≤ T') (hC : C ≤ C') : GD u' S sv T' C' := ⟨⟨⟨t, ht, hw⟩, hc⟩, fun i hi => (h.2 i hi).le hT hC⟩
def oChg (o : OB) (u : CS) (r : Int32) : OB := (bgV (oV o) (oN o) u, kNx r (oN o), kSz r (oS o), oSv o, oZ o, oG o)
theorem kNx_lt {r : Int32} {n : Nat} (h : n < 7) : kNx r n < 7 := by
  unfold kNx
  split
  · exact h
  · exact Nat.mod_lt _ (by decide)
theorem kSz_le {r : Int32} {n : Nat} (h : n ≤ 6) : kSz r n ≤ 6 := by
  unfold kSz
  split
  · exact h
  · split <;> omega
theorem bgV_0 {V : Nat → CS} {nx : Nat} {u : CS} : bgV V nx u 0 = u := by unfold bgV; rw [setC_i]
theorem bgV_2 {V : Nat → CS} {nx i : Nat} {u : CS} (hi : i < 2) : bgV V nx u (2 + i) = V (2 + i) := by unfold bgV; rw [setC_n (by omega), setC_n (by omega)]
theorem AT_chg {o : OB} {u u' : CS} {S : Nat → CS} {sv : Nat → Int32} {r : Int32} (h : AT o u S sv) : AT (oChg o u' r) u' S sv := by
  obtain ⟨h1, h2, h3, h4, h5, h6⟩ := h
  exact ⟨kNx_lt h1, kSz_le h2, h3, (show bgV (oV o) (oN o) u' 0 = u' from bgV_0), fun i hi => (show bgV (oV o) (oN o) u' (2 + i) = oV o (2 + i) from bgV_2 hi).trans (h5 i hi), h6⟩
/-! the text of the pad, its characters' numbers -/
def TXT (o : OB) (t : List Nat) : Prop := oZ o 1 = nI t.length ∧ ∀ i c, t[i]? = some c → oG o i = nI c
theorem size1 : ∀ c : Nat, 33 ≤ c → c ≤ 126 → m_X2_sizeOf_r (nI c).toInt64 = nI 1 := by
  have h : ∀ c : Fin 127, 33 ≤ c.val → m_X2_sizeOf_r (nI c.val).toInt64 = nI 1 := by decide +kernel
  intro c h1 h2
  exact h ⟨c, by omega⟩ h1
theorem char1 : ∀ c : Nat, 33 ≤ c → c ≤ 126 → ((((((nI c).toInt64.toUInt64 >>> (((nI 8) * (((nI 1) - (nI 1)) - (nI 0))).toInt64.toUInt64 &&& Int64.toUInt64 63)).toInt64) &&& 255).toInt32).toUInt32 % 65536).toInt32 = nI c := by
  have h : ∀ c : Fin 127, 33 ≤ c.val → ((((((nI c.val).toInt64.toUInt64 >>> (((nI 8) * (((nI 1) - (nI 1)) - (nI 0))).toInt64.toUInt64 &&& Int64.toUInt64 63)).toInt64) &&& 255).toInt32).toUInt32 % 65536).toInt32 = nI c.val := by decide +kernel
  intro c h1 h2
  exact h ⟨c, by omega⟩ h1
section
variable {l : Launch} {D : va_G} {k : Nat → ClassId} {B : Nat → Nat} {A : Nat → Nat → Nat} {o : OB} {u : CS} {S : Nat → CS} {sv : Nat → Int32}
theorem A_of (h : AT o u S sv) (q w : Int32) : mI l yX4_of (wsY yX4_of cX4_of 3 (some .int)) 2 D k [.ref (B 0), .int q, .int w] (OW k B A o) (OW k B A o) (m_X4_of_r u q w) := by
  rw [← h.2.2.2.1]
  exact c_X4_of l D k B A _ _ _ _ _ _ q w
theorem A_frame (h : AT o u S sv) (hc : CM u) (q w : Int32) : mI l yX4_frame (wsY yX4_frame cX4_frame 3 (some .int)) 2 D k [.ref (B 0), .int q, .int w] (OW k B A o) (OW k B A o) (m_X4_frame_r u q w) := by
  have e := h.2.2.2.1
  rw [← e]
  exact c_X4_frame l D k B A _ _ _ _ _ _ q w (by rw [e]; exact hc)
theorem A_row (h : AT o u S sv) (q : Int32) : mI l yX4_row (wsY yX4_row cX4_row 2 (some .int)) 2 D k [.ref (B 0), .int q] (OW k B A o) (OW k B A o) (m_X4_row_r u q) := by
  rw [← h.2.2.2.1]
  exact c_X4_row l D k B A _ _ _ _ _ _ q
theorem A_why (h : AT o u S sv) (hc : CM u) (q : Int32) : mI l yX4_why (wsY yX4_why cX4_why 2 (some .int)) 2 D k [.ref (B 0), .int q] (OW k B A o) (OW k B A o) (m_X4_why_r u q) := by
  have e := h.2.2.2.1
  rw [← e]
  exact c_X4_why l D k B A _ _ _ _ _ _ q (by rw [e]; exact hc)
/-- the numbers of a card that count() tells, but for pad and history -/
def ctr (u : CS) (w : Int32) : Int32 := m_X4_count_r u oQ (nI 0) w
theorem ct_eq {u : CS} {z : Nat → Int32} {sz : Int32} {j : Nat} (hj : j < 11) : m_X4_count_r u z sz (nI j) = ctr u (nI j) := by
  have n11 : ¬ nI j = nI 11 := fun e => by have := (nI_eq (by omega) (by decide)).mp e; omega
  have n12 : ¬ nI j = nI 12 := fun e => by have := (nI_eq (by omega) (by decide)).mp e; omega
  unfold ctr m_X4_count_r
  rw [if_neg n11, if_neg n12, if_neg n11, if_neg n12]
theorem A_count (h : AT o u S sv) {j : Nat} (hj : j < 11) : mI l yX4_count (wsY yX4_count cX4_count 2 (some .int)) 3 D k [.ref (B 0), .int (nI j)] (OW k B A o) (OW k B A o) (ctr u (nI j)) := by
  rw [← h.2.2.2.1, ← ct_eq (z := oZ o) (sz := nI (oS o)) hj]
  exact c_X4_count l D k B A _ _ _ _ _ _ _
theorem A_set (h : AT o u S sv) (hc : OKC u) (x v : Int32) : mI l yX4_set (wsY yX4_set cX4_set 3 (some .int)) 3 D k [.ref (B 0), .int x, .int v] (OW k B A o) (OW k B A (oChg o (m_X0_changeSetting_u u x v) (m_X0_changeSetting_r u x v))) (m_X0_changeSetting_r u x v) := by
  obtain ⟨h1, h2, h3, h4, h5, h6⟩ := h
  rw [← h4] at hc ⊢
  exact c_X4_set l D k B A _ _ _ _ _ _ x v h1 h2 hc
theorem A_bounds (h : AT o u S sv) (hc : OKC u) (x c w : Int32) : mI l yX4_bounds (wsY yX4_bounds cX4_bounds 4 (some .int)) 3 D k [.ref (B 0), .int x, .int c, .int w] (OW k B A o) (OW k B A (oChg o (m_X0_changeBounds_u u x c w) (m_X0_changeBounds_r u x c w))) (m_X0_changeBounds_r u x c w) := by
  obtain ⟨h1, h2, h3, h4, h5, h6⟩ := h
  rw [← h4] at hc ⊢
  exact c_X4_bounds l D k B A _ _ _ _ _ _ x c w h1 h2 hc
theorem A_come (h : AT o u S sv) (hc : OKC u) (x : Int32) : mI l yX4_come (wsY yX4_come cX4_come 2 (some .int)) 3 D k [.ref (B 0), .int x] (OW k B A o) (OW k B A (oChg o (m_X0_receive_u u x) (m_X0_receive_r u x))) (m_X0_receive_r u x) := by
  obtain ⟨h1, h2, h3, h4, h5, h6⟩ := h
  rw [← h4] at hc ⊢
  exact c_X4_come l D k B A _ _ _ _ _ _ x h1 h2 hc
theorem A_mask (h : AT o u S sv) (hc : OKC u) (x : Int32) : mI l yX4_mask (wsY yX4_mask cX4_mask 2 (some .int)) 3 D k [.ref (B 0), .int x] (OW k B A o) (OW k B A (oChg o (m_X0_changeMask_u u x) (m_X0_changeMask_r u x))) (m_X0_changeMask_r u x) := by
  obtain ⟨h1, h2, h3, h4, h5, h6⟩ := h
  rw [← h4] at hc ⊢
  exact c_X4_mask l D k B A _ _ _ _ _ _ x h1 h2 hc
theorem A_call (h : AT o u S sv) (hc : OKC u) (x : Int32) : mI l yX4_call (wsY yX4_call cX4_call 2 (some .int)) 4 D k [.ref (B 0), .int x] (OW k B A o) (OW k B A (oChg o (m_X0_callByHand_u u x) (m_X0_callByHand_r u x))) (m_X0_callByHand_r u x) := by
  obtain ⟨h1, h2, h3, h4, h5, h6⟩ := h
  rw [← h4] at hc ⊢
  exact c_X4_call l D k B A _ _ _ _ _ _ x h1 h2 hc
theorem A_pass (h : AT o u S sv) (hc : OKC u) (x : Int32) : mI l yX4_pass (wsY yX4_pass cX4_pass 2 (some .int)) 7 D k [.ref (B 0), .int x] (OW k B A o) (OW k B A (oChg o (m_X0_passTicks_u u x) (m_X0_passTicks_r u x))) (m_X0_passTicks_r u x) := by
  obtain ⟨h1, h2, h3, h4, h5, h6⟩ := h
  rw [← h4] at hc ⊢
  exact c_X4_pass l D k B A _ _ _ _ _ _ x h1 h2 hc
theorem pass_run {u : CS} {T n : Nat} (hT : u 0 2 = nI T) (h1 : 1 ≤ n) (h2 : n ≤ 99) (h3 : T + n ≤ 9999) : m_X0_passTicks_u u (nI n) = lp_run n u ∧ m_X0_passTicks_r u (nI n) = lp_runR n u (nI 0) := by
  have c1 : ¬ nI n < nI 1 := by rw [nI_ltI (by omega) (by decide)]; omega
  have c2 : nI n ≤ nI 99 := by rw [nI_leI (by omega) (by decide)]; exact h2
  have c3 : nI (T + n) ≤ nI 9999 := by rw [nI_leI (by omega) (by decide)]; exact h3
  rw [m_X0_passTicks_u, m_X0_passTicks_r, hT, nI_add, if_neg c1, if_neg c1, if_pos c2, if_pos c2, if_pos c3, if_pos c3, tn_of rfl (by omega)]
  exact ⟨rfl, rfl⟩
/-- questions that are played on the probe -/
theorem AT_pr {V' : Nat → CS} (h : AT o u S sv) (hv : ∀ i, i ≠ 1 → V' i = oV o i) : AT (V', oN o, oS o, oSv o, oZ o, oG o) u S sv := by
  obtain ⟨h1, h2, h3, h4, h5, h6⟩ := h
  exact ⟨h1, h2, h3, (hv 0 (by decide)).trans h4, fun i hi => (hv _ (by omega)).trans (h5 i hi), h6⟩
theorem A_would (h : AT o u S sv) (hc : OKC u) (x w : Int32) : ∃ o' : OB, AT o' u S sv ∧ mI l yX4_would (wsY yX4_would cX4_would 3 (some .int)) 6 D k [.ref (B 0), .int x, .int w] (OW k B A o) (OW k B A o') (m_X4_would_r u u x w) := by
  refine ⟨_, AT_pr (V' := m_X4_would_V (oV o) x w) h (fun i hi => ?_), ?_⟩
  · unfold m_X4_would_V
    repeat (first | rfl | exact setC_n hi | split)
  · obtain ⟨h1, h2, h3, h4, h5, h6⟩ := h
    rw [would_same (p := u) (p' := oV o 1) hc.1]
    rw [← h4] at hc ⊢
    exact c_X4_would l D k B A _ _ _ _ _ _ x w hc
theorem A_takenIn (h : AT o u S sv) (hc : OKC u) (x : Int32) : ∃ o' : OB, AT o' u S sv ∧ mI l yX4_takenIn (wsY yX4_takenIn cX4_takenIn 3 (some .int)) 5 D k [.ref (B 0), .int x] (OW k B A o) (OW k B A o') (m_X4_takenIn_r u u x) := by
  refine ⟨_, AT_pr (V' := m_X4_takenIn_V (oV o) x) h (fun i hi => ?_), ?_⟩
  · unfold m_X4_takenIn_V
    repeat (first | rfl | exact setC_n hi | split)
  · obtain ⟨h1, h2, h3, h4, h5, h6⟩ := h
    rw [taken_same (p := u) (p' := oV o 1) hc.1]
    rw [← h4] at hc ⊢
    exact c_X4_takenIn l D k B A _ _ _ _ _ _ x hc
theorem A_best (h : AT o u S sv) (hc : OKC u) {j : Nat} (hj : j < 3) (gp w : Int32) : ∃ o' : OB, AT o' u S sv ∧ mI l yX4_bestCount (wsY yX4_bestCount cX4_bestCount 8 (some .int)) 7 D k [.ref (B 0), .int (nI j), .int gp, .int w] (OW k B A o) (OW k B A o') (m_X4_bestCount_r u u (nI j) gp w) := by
  refine ⟨_, AT_pr (V' := m_X4_bestCount_V (oV o) (nI j) gp w) h (fun i hi => ?_), ?_⟩
  · unfold m_X4_bestCount_V
    repeat (first | rfl | exact setC_n hi | split)
  · obtain ⟨h1, h2, h3, h4, h5, h6⟩ := h
    rw [best_same (p := u) (p' := oV o 1) hj]
    rw [← h4] at hc ⊢
    exact c_X4_bestCount l D k B A _ _ _ _ _ _ (nI j) gp w hc.1
/-- slots -/
theorem A_save (h : AT o u S sv) (hc : OKC u) {i : Nat} (hi : i < 2) : ∃ o' : OB, AT o' u (setC S i (m_X0_copyFrom_u (S i) u)) (upd sv i (nI 1)) ∧ mI l yX4_save (wsY yX4_save cX4_save 2 (some .int)) 2 D k [.ref (B 0), .int (nI i)] (OW k B A o) (OW k B A o') (u 0 3) := by
  obtain ⟨h1, h2, h3, h4, h5, h6⟩ := h
  have hm := c_X4_save l D k B A (oV o) (nI (oN o)) (nI (oS o)) (oSv o) (oZ o) (oG o) i hi (by rw [h4]; exact hc)
  refine ⟨(setC (oV o) (2 + i) (m_X0_copyFrom_u (oV o (2 + i)) (oV o 0)), oN o, oS o, upd (oSv o) i (nI 1), oZ o, oG o), ⟨h1, h2, h3, ?_, fun j hj => ?_, ?_⟩, ?_⟩
  · exact (setC_n (by omega)).trans h4
  · show setC (oV o) (2 + i) (m_X0_copyFrom_u (oV o (2 + i)) (oV o 0)) (2 + j) = setC S i (m_X0_copyFrom_u (S i) u) j
    by_cases e : j = i
    · subst e; rw [setC_i, setC_i, h4, h5 j hj]
    · rw [setC_n (by omega), setC_n e]; exact h5 j hj
  · show upd (oSv o) i (nI 1) = _
    rw [h6]
  · rw [h4] at hm ⊢
    exact hm
theorem A_restore0 (h : AT o u S sv) {i : Nat} (hi : i < 2) (h0 : sv i = nI 0) : mI l yX4_restore (wsY yX4_restore cX4_restore 2 (some .int)) 3 D k [.ref (B 0), .int (nI i)] (OW k B A o) (OW k B A o) (-5) := c_X4_restore1 l D k B A _ _ _ _ _ _ i hi (by rw [h.2.2.2.2.2]; exact h0)
theorem A_restore (h : AT o u S sv) (hc : OKC u) {i : Nat} (hi : i < 2) (h0 : sv i = nI 1) (hs : OKC (S i)) : mI l yX4_restore (wsY yX4_restore cX4_restore 2 (some .int)) 3 D k [.ref (B 0), .int (nI i)] (OW k B A o) (OW k B A (oChg o (m_X0_copyFrom_u u (S i)) (m_X0_copyFrom_u u (S i) 0 3))) (m_X0_copyFrom_u u (S i) 0 3) := by
  obtain ⟨h1, h2, h3, h4, h5, h6⟩ := h
  rw [← h4] at hc ⊢
  rw [← h5 i hi] at hs ⊢
  exact c_X4_restore l D k B A _ _ _ _ _ _ i hi (by rw [h6]; exact h0) h1 h2 hc hs
/-- the pad -/
theorem A_wipe (h : AT o u S sv) : ∃ (o' : OB) (n : Nat), n < 2 ^ 31 ∧ AT o' u S sv ∧ TXT o' [] ∧ mI l yX4_wipe (wsY yX4_wipe cX4_wipe 1 (some .int)) 1 D k [.ref (B 0)] (OW k B A o) (OW k B A o') (nI n) := by
  obtain ⟨h1, h2, h3, h4, h5, h6⟩ := h
  exact ⟨(oV o, oN o, oS o, oSv o, m_X2_clear_z (oZ o), oG o), tn (oZ o 1), tn_lt _, ⟨h1, h2, PD_len h3 (n := 0) (by decide), h4, h5, h6⟩, ⟨rfl, fun i c hi => by simp at hi⟩, c_X4_wipe l D k B A _ _ _ _ _ _ h3⟩
theorem A_put (h : AT o u S sv) {t : List Nat} (ht : TXT o t) (hl : t.length < 80) {x : Int64} {c : Nat} (hx : x = (nI c).toInt64) (h33 : 33 ≤ c) (h126 : c ≤ 126) : ∃ o' : OB, AT o' u S sv ∧ TXT o' (t ++ [c]) ∧ mI l yX4_put (wsY yX4_put cX4_put 3 (some .int)) 2 D k [.ref (B 0), .long x] (OW k B A o) (OW k B A o') (nI (t.length + 1)) := by
  subst hx
  obtain ⟨h1, h2, h3, h4, h5, h6⟩ := h
  obtain ⟨t1, t2⟩ := ht
  have hm := c_X4_put l D k B A (oV o) (nI (oN o)) (nI (oS o)) (oSv o) (oZ o) (oG o) (nI c).toInt64 h3
  have e1 : tn (oZ o 1) = t.length := tn_of t1 (by omega)
  have n10 : ¬ (1 : Nat) = 0 := by decide
  have p80 : t.length + 1 ≤ 80 := by omega
  have e2 : tn (m_X2_sizeOf_r (nI c).toInt64) = 1 := tn_of (size1 c h33 h126) (by decide)
  have eg : lp_app (nI c).toInt64 1 t.length 1 0 (oG o) = upd (oG o) t.length (nI c) := by
    rw [lp_app, lp_app, char1 c h33 h126, Nat.add_zero]
  rw [m_X2_append_z, m_X2_append_g, m_X2_append_r, e2, e1, if_neg n10, if_neg n10, if_neg n10, if_pos p80, if_pos p80, if_pos p80, eg] at hm
  refine ⟨(oV o, oN o, oS o, oSv o, upd (oZ o) 1 (nI (t.length + 1)), upd (oG o) t.length (nI c)), ⟨h1, h2, PD_len h3 (by omega), h4, h5, h6⟩, ⟨?_, fun i d hi => ?_⟩, hm⟩
  · show upd (oZ o) 1 (nI (t.length + 1)) 1 = _
    rw [pk_us, List.length_append, List.length_singleton]
  · show upd (oG o) t.length (nI c) i = nI d
    by_cases e : i = t.length
    · subst e
      rw [List.getElem?_append_right (Nat.le_refl _), Nat.sub_self] at hi
      have hi : c = d := by simpa using hi
      rw [pk_us, hi]
    · have hb := (List.getElem?_eq_some_iff.mp hi).1
      rw [List.length_append, List.length_singleton] at hb
      rw [List.getElem?_append_left (by omega)] at hi
      rw [pk_un e]
      exact t2 i d hi
/-- one order, carried out -/
theorem A_carry (h : AT o u S sv) (hc : OKC u) {t : List Nat} (ht : TXT o t) (hl : t.length ≤ 80) {kd f1 f2 f3 tm : Int32} (ho : OE (oG o) t.length 0 t.length kd f1 f2 f3 tm) : ∃ (z : Nat → Int32) (o' : OB), (z 4 = kd ∧ z 5 = f1 ∧ (kd = nI 113 → z 6 = f2 ∧ z 7 = f3)) ∧ AT o' (lp_ci z (tn tm) u 0).1 S sv ∧ mI l yX4_carryOut (wsY yX4_carryOut cX4_carryOut 5 (some .int)) 8 D k [.ref (B 0)] (OW k B A o) (OW k B A o') (nI (lp_ci z (tn tm) u 0).2.1) := by
  obtain ⟨h1, h2, h3, h4, h5, h6⟩ := h
  have hle := OE_le ho
  have hg : AG2 (oG o) (oG o) t.length := fun i _ => rfl
  have hn59 : ¬ H (oG o) t.length t.length (nI 59) := fun z => Nat.lt_irrefl _ z.1
  have st : ∀ y : Nat → Int32, y 1 = nI t.length → PC (m_X2_startReading_z y) t.length 0 := fun y hy => ⟨hy, rfl, rfl, Nat.zero_le _, hl⟩
  have rd : ∀ y : Nat → Int32, PC y t.length 0 → ¬ m_X2_readOrder_r y (oG o) = 0 ∧ PC (m_X2_readOrder_z y (oG o)) t.length t.length := by
    intro y hy
    obtain ⟨r1, r2, r3⟩ := rd_0 (g := oG o) hy
    obtain ⟨k1, k2, -⟩ := class_ok hg r3 pk_us ho
    rw [r1, r2]
    exact ⟨k1, k2⟩
  obtain ⟨y, ey⟩ : ∃ y, m_X2_startReading_z (oZ o) = y := ⟨_, rfl⟩
  have hy : PC y t.length 0 := by rw [← ey]; exact st _ ht.1
  obtain ⟨a1, a2⟩ := rd y hy
  have ffz : m_X2_firstFault_z (oZ o) (oG o) = m_X2_readOrder_z y (oG o) := by
    obtain ⟨b1, b2⟩ := rd_no hg a2 (by omega) hn59
    rw [m_X2_firstFault_z, ey, lp_ff, if_neg (by decide +kernel), lp_ff, if_neg a1, b2, ff_z _ _ _ b1]
  have ff : m_X2_firstFault_r (oZ o) (oG o) = (-6) := by
    rw [m_X2_firstFault_r, ffz, ffr_ok a2, if_pos (Nat.le_refl _)]
  have hm := c_X4_carryOut l D k B A (oV o) (oN o) (oS o) (oSv o) (oZ o) (oG o) h1 h2 h3 (by rw [h4]; exact hc) ff
  obtain ⟨y2, ey2⟩ : ∃ yq, m_X2_startReading_z (m_X2_readOrder_z y (oG o)) = yq := ⟨_, rfl⟩
  have hy2 : PC y2 t.length 0 := by rw [← ey2]; exact st _ a2.1
  obtain ⟨r1, r2, r3⟩ := rd_0 (g := oG o) hy2
  obtain ⟨k1, k2, k3, k4, k5, k6⟩ := class_ok hg r3 pk_us ho
  obtain ⟨z, ez⟩ : ∃ z, coC_z (upd y2 8 (nI 1)) (oG o) = z := ⟨_, rfl⟩
  rw [ez] at k2 k3 k4 k5 k6
  have cav : (ca_V (oV o) (oN o) (oZ o) (oG o)).2 = ((lp_ci z (tn tm) u 0).1, (lp_ci z (tn tm) u 0).2.1) := by
    rw [ca_V, ffz, ey2, ca_of r1 r2, caS, if_neg k1, ez, k6, h4]
    by_cases c : (lp_ci z (tn tm) u 0).2.2 = 0
    · rw [if_pos c]
    · rw [if_neg c, ca_no hg k2 (by omega) hn59]
  have pd : PD (ca_V (oV o) (oN o) (oZ o) (oG o)).1 := by
    rw [ca_V, ffz, ey2]
    refine PD_ca _ _ _ _ _ ⟨⟨?_, ?_⟩, ?_, ?_⟩
    · rw [PC_1 hy2]; exact hy2.1
    · rw [PC_1 hy2]; exact hl
    · rw [PC_2 hy2]; exact hy2.2.1
    · rw [PC_2 hy2]; omega
  have c1 : (ca_V (oV o) (oN o) (oZ o) (oG o)).2.1 = (lp_ci z (tn tm) u 0).1 := by rw [cav]
  have c2 : (ca_V (oV o) (oN o) (oZ o) (oG o)).2.2 = (lp_ci z (tn tm) u 0).2.1 := by rw [cav]
  refine ⟨z, ?_⟩
  obtain ⟨u', eu⟩ : ∃ q, (lp_ci z (tn tm) u 0).1 = q := ⟨_, rfl⟩
  obtain ⟨n', en⟩ : ∃ q, (lp_ci z (tn tm) u 0).2.1 = q := ⟨_, rfl⟩
  obtain ⟨zz, ezz⟩ : ∃ q, (ca_V (oV o) (oN o) (oZ o) (oG o)).1 = q := ⟨_, rfl⟩
  rw [c1, c2, eu, en, ezz] at hm
  rw [ezz] at pd
  rw [eu, en]
  have hat : AT (bgV (oV o) (oN o) u', kNx (nI n') (oN o), kSz (nI n') (oS o), oSv o, m_X2_clear_z zz, oG o) u' S sv := ⟨kNx_lt h1, kSz_le h2, PD_len pd (n := 0) (by decide), (show bgV (oV o) (oN o) u' 0 = u' from bgV_0), fun i hi => (show bgV (oV o) (oN o) u' (2 + i) = oV o (2 + i) from bgV_2 hi).trans (h5 i hi), h6⟩
  exact ⟨_, ⟨k3, k4, k5⟩, hat, hm⟩
end
