/-! ONE CALL: class and reference answer alike, and what holds between two calls holds again -/
def STEP (l : Launch) (D : va_G) (k : Nat → ClassId) (B : Nat → Nat) (A : Nat → Nat → Nat) (a : Nat → Nat) (yc : MethodName) (wc : List Cond) (dc : Nat) (yr : MethodName) (wr : List Cond) (dr : Nat) (as : List Value) (V : Nat → CS) (nx sz : Nat) (sv z g zr f kp hi sl svr tx td : Nat → Int32) : Prop :=
  ∃ (r : Int32) (V' : Nat → CS) (nx' sz' : Nat) (sv' z' g' zr' f' kp' hi' sl' svr' tx' td' : Nat → Int32), mI l yc wc dc D k (.ref (B 0) :: as) (bigW k B A V (nI nx) (nI sz) sv z g) (bigW k B A V' (nI nx') (nI sz') sv' z' g') r ∧ mI l yr wr dr D k (.ref (a 0) :: as) (refW k a zr f kp hi sl svr tx td) (refW k a zr' f' kp' hi' sl' svr' tx' td') r ∧ INV V' nx' sz' sv' z' g' zr' f' hi' sl' svr' tx' td'
theorem INV_1 {V V' : Nat → CS} {nx sz : Nat} {sv z g zr f hi sl svr tx td : Nat → Int32} (h : INV V nx sz sv z g zr f hi sl svr tx td) (hv : ∀ i, i ≠ 1 → V' i = V i) : INV V' nx sz sv z g zr f hi sl svr tx td := by
  obtain ⟨hn, hs, h3, h0, ht, hh, hsl, hp, hd⟩ := h
  refine ⟨hn, hs, h3, by rw [hv 0 (by decide)]; exact h0, ht, fun i hi => ?_, fun i hi => ?_, hp, hd⟩
  · rw [hv _ (by omega)]; exact hh i hi
  · rw [hv _ (by omega)]; exact hsl i hi
theorem INV.hz {V : Nat → CS} {nx sz : Nat} {sv z g zr f hi sl svr tx td : Nat → Int32} (h : INV V nx sz sv z g zr f hi sl svr tx td) : zr 3 = nI (tn (zr 3)) ∧ tn (zr 3) ≤ 6 := by
  obtain ⟨hn, hs, h3, -⟩ := h
  rw [h3, tn_of rfl (by omega)]
  exact ⟨rfl, hs⟩
section
variable {l : Launch} {D : va_G} {k : Nat → ClassId} {B : Nat → Nat} {A : Nat → Nat → Nat} {a : Nat → Nat} {V : Nat → CS} {nx sz : Nat} {sv z g zr f kp hi sl svr tx td : Nat → Int32}
theorem L_set (x v : Int32) (h : INV V nx sz sv z g zr f hi sl svr tx td) : STEP l D k B A a yX4_set (wsY yX4_set cX4_set 3 (some .int)) 3 yX5_set (wsY yX5_set cX5_set 4 (some .int)) 2 [.int x, .int v] V nx sz sv z g zr f kp hi sl svr tx td := by
  obtain ⟨hn, hs, h3, h0, ht, hh, hsl, hp, hd⟩ := id h
  obtain ⟨hz, hz6⟩ := h.hz
  obtain ⟨s1, s2, s3, s4⟩ := S_set (z := zr) (f := f) (hi := hi) (x := x) (v := v) h0 ht
  have hC := c_X4_set l D k B A V nx sz sv z g x v hn hs h0.okc
  rw [s1] at hC
  exact ⟨_, _, _, _, sv, z, g, _, _, kp, _, sl, svr, tx, td, hC, c_X5_set l D k a zr f kp hi sl svr tx td x v hz hz6, INV_chg h s2 s3 s4⟩
theorem L_bounds (x c w : Int32) (h : INV V nx sz sv z g zr f hi sl svr tx td) : STEP l D k B A a yX4_bounds (wsY yX4_bounds cX4_bounds 4 (some .int)) 3 yX5_bounds (wsY yX5_bounds cX5_bounds 4 (some .int)) 2 [.int x, .int c, .int w] V nx sz sv z g zr f kp hi sl svr tx td := by
  obtain ⟨hn, hs, h3, h0, ht, hh, hsl, hp, hd⟩ := id h
  obtain ⟨hz, hz6⟩ := h.hz
  obtain ⟨s1, s2, s3, s4⟩ := S_bounds (z := zr) (f := f) (hi := hi) (x := x) (c := c) (w := w) h0 ht
  have hC := c_X4_bounds l D k B A V nx sz sv z g x c w hn hs h0.okc
  rw [s1] at hC
  exact ⟨_, _, _, _, sv, z, g, _, _, kp, _, sl, svr, tx, td, hC, c_X5_bounds l D k a zr f kp hi sl svr tx td x c w hz hz6, INV_chg h s2 s3 s4⟩
theorem L_come (x : Int32) (h : INV V nx sz sv z g zr f hi sl svr tx td) : STEP l D k B A a yX4_come (wsY yX4_come cX4_come 2 (some .int)) 3 yX5_come (wsY yX5_come cX5_come 2 (some .int)) 4 [.int x] V nx sz sv z g zr f kp hi sl svr tx td := by
  obtain ⟨hn, hs, h3, h0, ht, hh, hsl, hp, hd⟩ := id h
  obtain ⟨hz, hz6⟩ := h.hz
  obtain ⟨s1, s2, s3, s4⟩ := S_come (z := zr) (f := f) (hi := hi) (x := x) h0 ht
  have hC := c_X4_come l D k B A V nx sz sv z g x hn hs h0.okc
  rw [s1] at hC
  exact ⟨_, _, _, _, sv, z, g, _, _, kp, _, sl, svr, tx, td, hC, c_X5_come l D k a zr f kp hi sl svr tx td x h0.2.1 hz hz6, INV_chg h s2 s3 s4⟩
theorem L_mask (x : Int32) (h : INV V nx sz sv z g zr f hi sl svr tx td) : STEP l D k B A a yX4_mask (wsY yX4_mask cX4_mask 2 (some .int)) 3 yX5_mask (wsY yX5_mask cX5_mask 2 (some .int)) 2 [.int x] V nx sz sv z g zr f kp hi sl svr tx td := by
  obtain ⟨hn, hs, h3, h0, ht, hh, hsl, hp, hd⟩ := id h
  obtain ⟨hz, hz6⟩ := h.hz
  obtain ⟨s1, s2, s3, s4⟩ := S_mask (z := zr) (f := f) (hi := hi) (x := x) h0 ht
  have hC := c_X4_mask l D k B A V nx sz sv z g x hn hs h0.okc
  rw [s1] at hC
  exact ⟨_, _, _, _, sv, z, g, _, _, kp, _, sl, svr, tx, td, hC, c_X5_mask l D k a zr f kp hi sl svr tx td x hz hz6, INV_chg h s2 s3 s4⟩
theorem L_call (x : Int32) (h : INV V nx sz sv z g zr f hi sl svr tx td) : STEP l D k B A a yX4_call (wsY yX4_call cX4_call 2 (some .int)) 4 yX5_call (wsY yX5_call cX5_call 2 (some .int)) 3 [.int x] V nx sz sv z g zr f kp hi sl svr tx td := by
  obtain ⟨hn, hs, h3, h0, ht, hh, hsl, hp, hd⟩ := id h
  obtain ⟨hz, hz6⟩ := h.hz
  obtain ⟨s1, s2, s3, s4⟩ := S_call (z := zr) (f := f) (hi := hi) (x := x) h0 ht
  have hC := c_X4_call l D k B A V nx sz sv z g x hn hs h0.okc
  rw [s1] at hC
  exact ⟨_, _, _, _, sv, z, g, _, _, kp, _, sl, svr, tx, td, hC, c_X5_call l D k a zr f kp hi sl svr tx td x h0.2.1 hz hz6, INV_chg h s2 s3 s4⟩
theorem L_pass (x : Int32) (h : INV V nx sz sv z g zr f hi sl svr tx td) : STEP l D k B A a yX4_pass (wsY yX4_pass cX4_pass 2 (some .int)) 7 yX5_pass (wsY yX5_pass cX5_pass 2 (some .int)) 7 [.int x] V nx sz sv z g zr f kp hi sl svr tx td := by
  obtain ⟨hn, hs, h3, h0, ht, hh, hsl, hp, hd⟩ := id h
  obtain ⟨hz, hz6⟩ := h.hz
  obtain ⟨s1, s2, s3, s4⟩ := S_pass (z := zr) (f := f) (hi := hi) (x := x) h0 ht
  have hC := c_X4_pass l D k B A V nx sz sv z g x hn hs h0.okc
  rw [s1] at hC
  exact ⟨_, _, _, _, sv, z, g, _, _, kp, _, sl, svr, tx, td, hC, c_X5_pass l D k a zr f kp hi sl svr tx td x h0.rf hz hz6, INV_chg h s2 s3 s4⟩
theorem L_of (x w : Int32) (h : INV V nx sz sv z g zr f hi sl svr tx td) : STEP l D k B A a yX4_of (wsY yX4_of cX4_of 3 (some .int)) 2 yX5_of (wsY yX5_of cX5_of 3 (some .int)) 4 [.int x, .int w] V nx sz sv z g zr f kp hi sl svr tx td := by
  obtain ⟨hn, hs, h3, h0, ht, hh, hsl, hp, hd⟩ := id h
  obtain ⟨hz, hz6⟩ := h.hz
  have hC := c_X4_of l D k B A V (nI nx) (nI sz) sv z g x w 
  rw [S_of (x := x) (w := w) h0] at hC
  exact ⟨_, V, nx, sz, sv, z, g, zr, f, kp, hi, sl, svr, tx, td, hC, c_X5_of l D k a zr f kp hi sl svr tx td x w h0.2.1, h⟩
theorem L_frame (x w : Int32) (h : INV V nx sz sv z g zr f hi sl svr tx td) : STEP l D k B A a yX4_frame (wsY yX4_frame cX4_frame 3 (some .int)) 2 yX5_frame (wsY yX5_frame cX5_frame 3 (some .int)) 2 [.int x, .int w] V nx sz sv z g zr f kp hi sl svr tx td := by
  obtain ⟨hn, hs, h3, h0, ht, hh, hsl, hp, hd⟩ := id h
  obtain ⟨hz, hz6⟩ := h.hz
  have hC := c_X4_frame l D k B A V (nI nx) (nI sz) sv z g x w h0.1.1
  rw [S_frame (x := x) (w := w) h0] at hC
  exact ⟨_, V, nx, sz, sv, z, g, zr, f, kp, hi, sl, svr, tx, td, hC, c_X5_frame l D k a zr f kp hi sl svr tx td x w h0.2.1, h⟩
theorem L_row (x : Int32) (h : INV V nx sz sv z g zr f hi sl svr tx td) : STEP l D k B A a yX4_row (wsY yX4_row cX4_row 2 (some .int)) 2 yX5_row (wsY yX5_row cX5_row 2 (some .int)) 1 [.int x] V nx sz sv z g zr f kp hi sl svr tx td := by
  obtain ⟨hn, hs, h3, h0, ht, hh, hsl, hp, hd⟩ := id h
  obtain ⟨hz, hz6⟩ := h.hz
  have hC := c_X4_row l D k B A V (nI nx) (nI sz) sv z g x 
  rw [S_row (x := x) h0] at hC
  exact ⟨_, V, nx, sz, sv, z, g, zr, f, kp, hi, sl, svr, tx, td, hC, c_X5_row l D k a zr f kp hi sl svr tx td x h0.2.1, h⟩
theorem L_count (w : Int32) (h : INV V nx sz sv z g zr f hi sl svr tx td) : STEP l D k B A a yX4_count (wsY yX4_count cX4_count 2 (some .int)) 3 yX5_count (wsY yX5_count cX5_count 2 (some .int)) 4 [.int w] V nx sz sv z g zr f kp hi sl svr tx td := by
  obtain ⟨hn, hs, h3, h0, ht, hh, hsl, hp, hd⟩ := id h
  obtain ⟨hz, hz6⟩ := h.hz
  have hC := c_X4_count l D k B A V (nI nx) (nI sz) sv z g w 
  rw [S_count (w := w) (z := z) (zr := zr) (sz := nI sz) h0 hp.2.2.1 h3.symm] at hC
  exact ⟨_, V, nx, sz, sv, z, g, zr, f, kp, hi, sl, svr, tx, td, hC, c_X5_count l D k a zr f kp hi sl svr tx td w h0.2.1, h⟩
theorem L_why (x : Int32) (h : INV V nx sz sv z g zr f hi sl svr tx td) : STEP l D k B A a yX4_why (wsY yX4_why cX4_why 2 (some .int)) 2 yX5_why (wsY yX5_why cX5_why 2 (some .int)) 4 [.int x] V nx sz sv z g zr f kp hi sl svr tx td := by
  obtain ⟨hn, hs, h3, h0, ht, hh, hsl, hp, hd⟩ := id h
  obtain ⟨hz, hz6⟩ := h.hz
  have hC := c_X4_why l D k B A V (nI nx) (nI sz) sv z g x h0.1.1
  rw [S_why (x := x) h0] at hC
  exact ⟨_, V, nx, sz, sv, z, g, zr, f, kp, hi, sl, svr, tx, td, hC, c_X5_why l D k a zr f kp hi sl svr tx td x h0.2.1, h⟩
theorem L_takenIn (x : Int32) (h : INV V nx sz sv z g zr f hi sl svr tx td) : STEP l D k B A a yX4_takenIn (wsY yX4_takenIn cX4_takenIn 3 (some .int)) 5 yX5_takenIn (wsY yX5_takenIn cX5_takenIn 3 (some .int)) 6 [.int x] V nx sz sv z g zr f kp hi sl svr tx td := by
  obtain ⟨hn, hs, h3, h0, ht, hh, hsl, hp, hd⟩ := id h
  obtain ⟨hz, hz6⟩ := h.hz
  have hC := c_X4_takenIn l D k B A V (nI nx) (nI sz) sv z g x h0.okc
  rw [S_takenIn (p := V 1) (x := x) h0] at hC
  refine ⟨_, _, nx, sz, sv, z, g, zr, f, _, hi, sl, svr, tx, td, hC, c_X5_takenIn l D k a zr f kp hi sl svr tx td x h0.rf, INV_1 h (fun i hi1 => ?_)⟩
  unfold m_X4_takenIn_V
  repeat (first | rfl | exact setC_n hi1 | split)
theorem L_would (x w : Int32) (h : INV V nx sz sv z g zr f hi sl svr tx td) : STEP l D k B A a yX4_would (wsY yX4_would cX4_would 3 (some .int)) 6 yX5_would (wsY yX5_would cX5_would 7 (some .int)) 7 [.int x, .int w] V nx sz sv z g zr f kp hi sl svr tx td := by
  obtain ⟨hn, hs, h3, h0, ht, hh, hsl, hp, hd⟩ := id h
  obtain ⟨hz, hz6⟩ := h.hz
  have hC := c_X4_would l D k B A V (nI nx) (nI sz) sv z g x w h0.okc
  rw [S_would (p := V 1) (x := x) (w := w) h0] at hC
  refine ⟨_, _, nx, sz, sv, z, g, zr, f, _, hi, sl, svr, tx, td, hC, c_X5_would l D k a zr f kp hi sl svr tx td x w h0.rf, INV_1 h (fun i hi1 => ?_)⟩
  unfold m_X4_would_V
  repeat (first | rfl | exact setC_n hi1 | split)
theorem L_bestCount (x gp w : Int32) (h : INV V nx sz sv z g zr f hi sl svr tx td) : STEP l D k B A a yX4_bestCount (wsY yX4_bestCount cX4_bestCount 8 (some .int)) 7 yX5_bestCount (wsY yX5_bestCount cX5_bestCount 8 (some .int)) 8 [.int x, .int gp, .int w] V nx sz sv z g zr f kp hi sl svr tx td := by
  obtain ⟨hn, hs, h3, h0, ht, hh, hsl, hp, hd⟩ := id h
  obtain ⟨hz, hz6⟩ := h.hz
  have hC := c_X4_bestCount l D k B A V (nI nx) (nI sz) sv z g x gp w h0.1.1
  rw [S_best (p := V 1) (x := x) (gp := gp) (w := w) h0 ht] at hC
  refine ⟨_, _, nx, sz, sv, z, g, zr, f, _, hi, sl, svr, tx, td, hC, c_X5_bestCount l D k a zr f kp hi sl svr tx td x gp w h0.rf (BD_of h0 ht), INV_1 h (fun i hi1 => ?_)⟩
  unfold m_X4_bestCount_V
  repeat (first | rfl | exact setC_n hi1 | split)
theorem L_put (x : Int64) (h : INV V nx sz sv z g zr f hi sl svr tx td) : STEP l D k B A a yX4_put (wsY yX4_put cX4_put 3 (some .int)) 2 yX5_put (wsY yX5_put cX5_put 5 (some .int)) 2 [.long x] V nx sz sv z g zr f kp hi sl svr tx td := by
  obtain ⟨hn, hs, h3, h0, ht, hh, hsl, hp, hd⟩ := id h
  obtain ⟨hz, hz6⟩ := h.hz
  obtain ⟨s1, s2, s3⟩ := S_put (x := x) hp
  have hC := c_X4_put l D k B A V (nI nx) (nI sz) sv z g x hp.1
  rw [s1] at hC
  exact ⟨_, V, nx, sz, sv, _, _, _, f, kp, hi, sl, svr, _, td, hC, c_X5_put l D k a zr f kp hi sl svr tx td x hp.2.1, hn, hs, (s3 3 (by decide)).trans h3, h0, ht, hh, hsl, s2, hd⟩
theorem L_wipe (h : INV V nx sz sv z g zr f hi sl svr tx td) : STEP l D k B A a yX4_wipe (wsY yX4_wipe cX4_wipe 1 (some .int)) 1 yX5_wipe (wsY yX5_wipe cX5_wipe 2 (some .int)) 0 [] V nx sz sv z g zr f kp hi sl svr tx td := by
  obtain ⟨hn, hs, h3, h0, ht, hh, hsl, hp, hd⟩ := id h
  obtain ⟨hz, hz6⟩ := h.hz
  obtain ⟨s1, s2⟩ := S_wipe hp
  have hC := c_X4_wipe l D k B A V (nI nx) (nI sz) sv z g hp.1
  rw [s1] at hC
  exact ⟨_, V, nx, sz, sv, _, _, _, f, kp, hi, sl, svr, tx, td, hC, c_X5_wipe l D k a zr f kp hi sl svr tx td, hn, hs, h3, h0, ht, hh, hsl, s2, hd⟩
theorem L_fault (h : INV V nx sz sv z g zr f hi sl svr tx td) : STEP l D k B A a yX4_fault (wsY yX4_fault cX4_fault 1 (some .int)) 6 yX5_fault (wsY yX5_fault cX5_fault 2 (some .int)) 4 [] V nx sz sv z g zr f kp hi sl svr tx td := by
  obtain ⟨hn, hs, h3, h0, ht, hh, hsl, hp, hd⟩ := id h
  obtain ⟨hz, hz6⟩ := h.hz
  obtain ⟨s1, s2, s3, -⟩ := S_fault hp
  have hC := c_X4_fault l D k B A V (nI nx) (nI sz) sv z g hp.1
  rw [s1] at hC
  exact ⟨_, V, nx, sz, sv, _, _, _, f, kp, hi, sl, svr, tx, _, hC, c_X5_fault l D k a zr f kp hi sl svr tx td hp.2.1, hn, hs, (s3 3 (by decide) (by decide)).trans h3, h0, ht, hh, hsl, s2, TD_fault hp.2.1 hd⟩
theorem L_carryOut (h : INV V nx sz sv z g zr f hi sl svr tx td) : STEP l D k B A a yX4_carryOut (wsY yX4_carryOut cX4_carryOut 5 (some .int)) 8 yX5_carryOut (wsY yX5_carryOut cX5_carryOut 5 (some .int)) 8 [] V nx sz sv z g zr f kp hi sl svr tx td := by
  obtain ⟨hn, hs, h3, h0, ht, hh, hsl, hp, hd⟩ := id h
  obtain ⟨hz, hz6⟩ := h.hz
  obtain ⟨s1, s2, s3, s4⟩ := S_fault hp
  have hR := c_X5_carryOut l D k a zr f kp hi sl svr tx td hp.2.1 h0.rf hd hz hz6 (s3 3 (by decide) (by decide)) (s3 7 (by decide) (by decide)) s4
  by_cases c : m_X5_fault_r zr tx = (-6)
  · obtain ⟨q1, q2, q3, q4, q5, q6, q7⟩ := S_carry (nx := nx) hp h0 ht hd c
    have hC := c_X4_carryOut l D k B A V nx sz sv z g hn hs hp.1 h0.okc (s1.trans c)
    have hhi : m_X5_carryOut_hi zr f hi tx = m_X5_changes_hi (m_X5_fault_z zr tx) f hi := by rw [m_X5_carryOut_hi, if_pos c]
    rw [q3, hhi] at hR
    have nn : ¬ nI (ca_V V nx z g).2.2 < 0 := nI_pos (by omega)
    have e3 : m_X5_fault_z zr tx 3 = nI sz := (s3 3 (by decide) (by decide)).trans h3
    have e0 : bgV V nx (ca_V V nx z g).2.1 0 = (ca_V V nx z g).2.1 := by unfold bgV; rw [setC_i]
    refine ⟨_, _, _, _, sv, _, g, _, _, kp, _, sl, svr, tx, _, hC, hR, ?_, ?_, ?_, ?_, q2, ?_, SLOT_bg hsl, q6, q5⟩
    · unfold kNx; rw [if_neg nn]; exact Nat.mod_lt _ (by decide)
    · unfold kSz; rw [if_neg nn]; split <;> omega
    · unfold kSz; rw [if_neg nn, q7]; exact chz_3 e3 hs
    · rw [e0]; exact q1
    · unfold kNx kSz; rw [if_neg nn, if_neg nn]; exact HIST_chg hn hs e3 hh h0 ht
  · have hC := c_X4_carryOut0 l D k B A V nx sz sv z g hn hs hp.1 h0.okc (fun e => c (s1.symm.trans e))
    rw [m_X5_carryOut_z, m_X5_carryOut_f, m_X5_carryOut_hi, m_X5_carryOut_td, m_X5_carryOut_r, if_neg c, if_neg c, if_neg c, if_neg c, if_neg c] at hR
    exact ⟨_, V, nx, sz, sv, _, g, _, f, kp, hi, sl, svr, tx, _, hC, hR, hn, hs, (s3 3 (by decide) (by decide)).trans h3, h0, ht, hh, hsl, s2, TD_fault hp.2.1 hd⟩
theorem L_undo (h : INV V nx sz sv z g zr f hi sl svr tx td) : STEP l D k B A a yX4_undo (wsY yX4_undo cX4_undo 1 (some .int)) 3 yX5_undo (wsY yX5_undo cX5_undo 2 (some .int)) 0 [] V nx sz sv z g zr f kp hi sl svr tx td := by
  obtain ⟨hn, hs, h3, h0, ht, hh, hsl, hp, hd⟩ := id h
  obtain ⟨hz, hz6⟩ := h.hz
  have hR := c_X5_undo l D k a zr f kp hi sl svr tx td hz hz6
  have et : tn (zr 3) = sz := by rw [h3]; exact tn_of rfl (by omega)
  rw [m_X5_undo_z, m_X5_undo_f, m_X5_undo_r, et] at hR
  by_cases c : sz = 0
  · subst c
    rw [if_pos rfl, if_pos rfl, if_pos rfl] at hR
    exact ⟨_, V, nx, 0, sv, z, g, zr, f, kp, hi, sl, svr, tx, td, c_X4_undo0 l D k B A V nx sv z g, hR, h⟩
  · rw [if_neg c, if_neg c, if_neg c] at hR
    have eb : (nx + 7 - sz + (sz - 1)) % 7 = kBx nx := by unfold kBx; congr 1; omega
    have hb : kBx nx < 7 := Nat.mod_lt _ (by decide)
    obtain ⟨g1, g2⟩ := hh (sz - 1) (by omega)
    rw [eb] at g1
    have hC := c_X4_undo l D k B A V nx sz sv z g hn (by omega) hs g1.okc
    have eu : ∀ i, i < 1640 → lp_un hi (sz - 1) 1640 0 f i = blk hi (sz - 1) i := fun i hi2 => by rw [un_at, if_pos (by omega)]; rfl
    refine ⟨_, _, _, _, sv, z, g, _, _, kp, hi, sl, svr, tx, td, hC, hR, hb, by omega, pk_us, ?_, ST_g g2 eu, fun i hi2 => ?_, fun i hi2 => ?_, ⟨hp.1, PT_u hp.2.1 (by decide) (by decide), ?_, fun i hi2 => hp.2.2.2 i hi2⟩, hd⟩
    · rw [setC_i]; exact SIM_g (SIM_copy g1) eu
    · have ei : (kBx nx + 7 - (sz - 1) + i) % 7 = (nx + 7 - sz + i) % 7 := by unfold kBx; omega
      rw [ei, setC_n (by omega)]
      exact hh i (by omega)
    · rw [setC_n (by omega)]
      exact hsl i hi2
    · exact hp.2.2.1
theorem L_save (x : Int32) (h : INV V nx sz sv z g zr f hi sl svr tx td) : STEP l D k B A a yX4_save (wsY yX4_save cX4_save 2 (some .int)) 2 yX5_save (wsY yX5_save cX5_save 3 (some .int)) 1 [.int x] V nx sz sv z g zr f kp hi sl svr tx td := by
  obtain ⟨hn, hs, h3, h0, ht, hh, hsl, hp, hd⟩ := id h
  obtain ⟨hz, hz6⟩ := h.hz
  have hR := c_X5_save l D k a zr f kp hi sl svr tx td x
  rw [m_X5_save_sl, m_X5_save_sv, m_X5_save_r] at hR
  by_cases c : m_X5_isSlot_r x = 0
  · rw [if_pos c, if_pos c, if_pos c] at hR
    exact ⟨_, V, nx, sz, sv, z, g, zr, f, kp, hi, sl, svr, tx, td, c_X4_save0 l D k B A V (nI nx) (nI sz) sv z g x ((isl_eq x).mpr c), hR, h⟩
  · obtain ⟨i, hi2, rfl⟩ := slotj c
    rw [if_neg c, if_neg c, if_neg c, tn_of rfl (by omega)] at hR
    have hC := c_X4_save l D k B A V (nI nx) (nI sz) sv z g i hi2 h0.okc
    rw [h0.1.2.2.1] at hC
    refine ⟨_, _, nx, sz, _, z, g, zr, f, kp, hi, _, _, tx, td, hC, hR, hn, hs, h3, ?_, ht, fun j hj => ?_, fun j hj => ?_, hp, hd⟩
    · rw [setC_n (by omega)]; exact h0
    · rw [setC_n (by omega)]; exact hh j hj
    · by_cases e : j = i
      · subst e
        rw [pk_us, pk_us, setC_i]
        exact Or.inr ⟨rfl, rfl, SIM_g (SIM_copy h0) (fun q hq => blk_ch hq), ST_g ht (fun q hq => blk_ch hq)⟩
      · rw [pk_un e, pk_un e, setC_n (by omega)]
        rcases hsl j hj with q | ⟨q1, q2, q3, q4⟩
        · exact Or.inl q
        · exact Or.inr ⟨q1, q2, SIM_g q3 (fun q hq => blk_cho e hq), ST_g q4 (fun q hq => blk_cho e hq)⟩
theorem L_restore (x : Int32) (h : INV V nx sz sv z g zr f hi sl svr tx td) : STEP l D k B A a yX4_restore (wsY yX4_restore cX4_restore 2 (some .int)) 3 yX5_restore (wsY yX5_restore cX5_restore 3 (some .int)) 1 [.int x] V nx sz sv z g zr f kp hi sl svr tx td := by
  obtain ⟨hn, hs, h3, h0, ht, hh, hsl, hp, hd⟩ := id h
  obtain ⟨hz, hz6⟩ := h.hz
  have hR := c_X5_restore l D k a zr f kp hi sl svr tx td x hz hz6
  rw [m_X5_restore_z, m_X5_restore_f, m_X5_restore_hi, m_X5_restore_r] at hR
  by_cases c : m_X5_isSlot_r x = 0
  · rw [if_pos c, if_pos c, if_pos c, if_pos c] at hR
    exact ⟨_, V, nx, sz, sv, z, g, zr, f, kp, hi, sl, svr, tx, td, c_X4_restore0 l D k B A V (nI nx) (nI sz) sv z g x ((isl_eq x).mpr c), hR, h⟩
  · obtain ⟨i, hi2, rfl⟩ := slotj c
    rw [if_neg c, if_neg c, if_neg c, if_neg c, tn_of rfl (by omega)] at hR
    rcases hsl i hi2 with ⟨q1, q2⟩ | ⟨q1, q2, q3, q4⟩
    · rw [if_pos q2, if_pos q2, if_pos q2, if_pos q2] at hR
      exact ⟨_, V, nx, sz, sv, z, g, zr, f, kp, hi, sl, svr, tx, td, c_X4_restore1 l D k B A V (nI nx) (nI sz) sv z g i hi2 q1, hR, h⟩
    · have n : ¬ svr i = 0 := by rw [q2]; decide +kernel
      rw [if_neg n, if_neg n, if_neg n, if_neg n] at hR
      have hC := c_X4_restore l D k B A V nx sz sv z g i hi2 q1 hn hs h0.okc q3.okc
      have eu : ∀ j, j < 1640 → lp_un sl i 1640 0 f j = blk sl i j := fun j hj => by rw [un_at, if_pos (by omega)]; rfl
      have s2 : SIM (m_X0_copyFrom_u (V 0) (V (2 + i))) (lp_un sl i 1640 0 f) := SIM_g (SIM_copy q3) eu
      have s1 : m_X0_copyFrom_u (V 0) (V (2 + i)) 0 3 = lp_un sl i 1640 0 f 5 := s2.1.2.2.1
      have nn : ¬ lp_un sl i 1640 0 f 5 < 0 := by rw [← s1, s2.1.1.1]; exact nI_pos (by have := s2.1.1.2.1; omega)
      rw [s1] at hC
      exact ⟨_, _, _, _, sv, z, g, _, _, kp, _, sl, svr, tx, td, hC, hR, INV_chg h s2 (ST_g q4 eu) (Or.inr ⟨nn, rfl, rfl⟩)⟩
end
