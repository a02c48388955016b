/-! History and slots, side by side -/
def blk (hi : Nat → Int32) (m : Nat) : Nat → Int32 := fun k => hi (1640 * m + k)
def HIST (V : Nat → CS) (nx sz : Nat) (hi : Nat → Int32) : Prop := ∀ i, i < sz → SIM (V (4 + (nx + 7 - sz + i) % 7)) (blk hi i) ∧ ST (blk hi i)
def SLOT (V : Nat → CS) (sv sl svr : Nat → Int32) : Prop := ∀ i, i < 2 → (sv i = nI 0 ∧ svr i = 0) ∨ (sv i = nI 1 ∧ svr i = nI 1 ∧ SIM (V (2 + i)) (blk sl i) ∧ ST (blk sl i))
theorem ch_at (f : Nat → Int32) (mm : Nat) : ∀ (r i : Nat) (y : Nat → Int32) (j : Nat), lp_ch f mm r i y j = if 1640 * mm + i ≤ j ∧ j < 1640 * mm + i + r then f (j - 1640 * mm) else y j := by
  intro r
  induction r with
  | zero => intro i y j; rw [lp_ch, if_neg (by omega)]
  | succ r ih =>
    intro i y j
    rw [lp_ch, ih]
    by_cases c : 1640 * mm + (i + 1) ≤ j ∧ j < 1640 * mm + (i + 1) + r
    · rw [if_pos c, if_pos (by omega)]
    · rw [if_neg c]
      by_cases e : j = 1640 * mm + i
      · rw [if_pos (by omega), e, pk_us]
        congr 1
        omega
      · rw [if_neg (by omega), pk_un e]
theorem sh_at : ∀ (r i : Nat) (y : Nat → Int32) (j : Nat), lp_sh r i y j = if i ≤ j ∧ j < i + r then y (j + 1640) else y j := by
  intro r
  induction r with
  | zero => intro i y j; rw [lp_sh, if_neg (by omega)]
  | succ r ih =>
    intro i y j
    rw [lp_sh, ih]
    by_cases c : i + 1 ≤ j ∧ j < i + 1 + r
    · rw [if_pos c, if_pos (by omega), pk_un (by omega)]
    · rw [if_neg c]
      by_cases e : j = i
      · subst e; rw [if_pos (by omega), pk_us]
      · rw [if_neg (by omega), pk_un e]
theorem un_at (hi : Nat → Int32) (mm : Nat) : ∀ (r i : Nat) (y : Nat → Int32) (j : Nat), lp_un hi mm r i y j = if i ≤ j ∧ j < i + r then hi (1640 * mm + j) else y j := by
  intro r
  induction r with
  | zero => intro i y j; rw [lp_un, if_neg (by omega)]
  | succ r ih =>
    intro i y j
    rw [lp_un, ih]
    by_cases c : i + 1 ≤ j ∧ j < i + 1 + r
    · rw [if_pos c, if_pos (by omega)]
    · rw [if_neg c]
      by_cases e : j = i
      · subst e; rw [if_pos (by omega), pk_us]
      · rw [if_neg (by omega), pk_un e]
theorem blk_ch {f y : Nat → Int32} {mm k : Nat} (hk : k < 1640) : blk (lp_ch f mm 1640 0 y) mm k = f k := by
  unfold blk
  rw [ch_at, if_pos (by omega)]
  congr 1
  omega
theorem blk_cho {f y : Nat → Int32} {mm m k : Nat} (hm : m ≠ mm) (hk : k < 1640) : blk (lp_ch f mm 1640 0 y) m k = blk y m k := by
  unfold blk
  rw [ch_at, if_neg (by omega)]
theorem chz_3 {z : Nat → Int32} {sz : Nat} (h3 : z 3 = nI sz) (hs : sz ≤ 6) : m_X5_changes_z z 3 = nI (if sz = 6 then 6 else sz + 1) := by
  rw [m_X5_changes_z, h3, tn_of rfl (by omega)]
  by_cases c : sz = 6
  · subst c; rw [if_pos rfl, if_pos rfl]; rfl
  · rw [if_neg c, if_neg c]; rfl
theorem HIST_chg {V : Nat → CS} {u : CS} {nx sz : Nat} {z f hi : Nat → Int32} (hn : nx < 7) (hs : sz ≤ 6) (h3 : z 3 = nI sz) (h : HIST V nx sz hi) (hS : SIM (V 0) f) (hT : ST f) : HIST (bgV V nx u) ((nx + 1) % 7) (if sz = 6 then 6 else sz + 1) (m_X5_changes_hi z f hi) := by
  have hold : ∀ p, p < 7 → p ≠ nx → bgV V nx u (4 + p) = V (4 + p) := fun p hp hne => by
    unfold bgV
    rw [setC_n (by omega), setC_n (by omega)]
  have hnew : bgV V nx u (4 + nx) = m_X0_copyFrom_u (V (4 + nx)) (V 0) := by
    unfold bgV
    rw [setC_n (by omega), setC_i]
  have hSn := SIM_copy (u := V (4 + nx)) hS
  intro i hi2
  rw [m_X5_changes_hi, h3, tn_of rfl (by omega)]
  by_cases c : sz = 6
  · subst c
    rw [if_pos rfl] at hi2 ⊢
    rw [if_pos rfl, show 6 - 1 = 5 from rfl]
    by_cases e : i = 5
    · subst e
      have ei : ((nx + 1) % 7 + 7 - 6 + 5) % 7 = nx := by omega
      rw [ei, hnew]
      exact ⟨SIM_g hSn (fun k hk => blk_ch hk), ST_g hT (fun k hk => blk_ch hk)⟩
    · obtain ⟨p, hp⟩ : ∃ p, (nx + 7 - 6 + (i + 1)) % 7 = p := ⟨_, rfl⟩
      have ei : ((nx + 1) % 7 + 7 - 6 + i) % 7 = p := by omega
      have hb : ∀ k, k < 1640 → blk (lp_ch f 5 1640 0 (lp_sh 8200 0 hi)) i k = blk hi (i + 1) k := fun k hk => by
        rw [blk_cho e hk]
        unfold blk
        rw [sh_at, if_pos (by omega)]
        congr 1
        omega
      obtain ⟨g1, g2⟩ := h (i + 1) (by omega)
      rw [hp] at g1
      rw [ei, hold p (by omega) (by omega)]
      exact ⟨SIM_g g1 hb, ST_g g2 hb⟩
  · rw [if_neg c] at hi2 ⊢
    rw [if_neg c]
    by_cases e : i = sz
    · subst e
      have ei : ((nx + 1) % 7 + 7 - (i + 1) + i) % 7 = nx := by omega
      rw [ei, hnew]
      exact ⟨SIM_g hSn (fun k hk => blk_ch hk), ST_g hT (fun k hk => blk_ch hk)⟩
    · obtain ⟨p, hp⟩ : ∃ p, (nx + 7 - sz + i) % 7 = p := ⟨_, rfl⟩
      have ei : ((nx + 1) % 7 + 7 - (sz + 1) + i) % 7 = p := by omega
      have hb : ∀ k, k < 1640 → blk (lp_ch f sz 1640 0 hi) i k = blk hi i k := fun k hk => blk_cho e hk
      obtain ⟨g1, g2⟩ := h i (by omega)
      rw [hp] at g1
      rw [ei, hold p (by omega) (by omega)]
      exact ⟨SIM_g g1 hb, ST_g g2 hb⟩
theorem HIST_same {V : Nat → CS} {u : CS} {nx sz : Nat} {hi : Nat → Int32} (hn : nx < 7) (hs : sz ≤ 6) (h : HIST V nx sz hi) : HIST (bgV V nx u) nx sz hi := by
  intro i hi2
  obtain ⟨p, hp⟩ : ∃ p, (nx + 7 - sz + i) % 7 = p := ⟨_, rfl⟩
  have g := h i hi2
  rw [hp] at g ⊢
  have e : bgV V nx u (4 + p) = V (4 + p) := by
    unfold bgV
    rw [setC_n (by omega), setC_n (by omega)]
  rw [e]
  exact g
theorem SLOT_bg {V : Nat → CS} {u : CS} {nx : Nat} {sv sl svr : Nat → Int32} (h : SLOT V sv sl svr) : SLOT (bgV V nx u) sv sl svr := by
  intro i hi
  have e : bgV V nx u (2 + i) = V (2 + i) := by
    unfold bgV
    rw [setC_n (by omega), setC_n (by omega)]
  rw [e]
  exact h i hi
/-- everything that holds between two calls -/
def INV (V : Nat → CS) (nx sz : Nat) (sv z g zr f hi sl svr tx td : Nat → Int32) : Prop := nx < 7 ∧ sz ≤ 6 ∧ zr 3 = nI sz ∧ SIM (V 0) f ∧ ST f ∧ HIST V nx sz hi ∧ SLOT V sv sl svr ∧ PADR z g zr tx ∧ TD td
theorem INV_chg {V : Nat → CS} {u : CS} {nx sz : Nat} {sv z g zr f hi sl svr tx td zr' f' hi' : Nat → Int32} {r : Int32} (h : INV V nx sz sv z g zr f hi sl svr tx td) (hS : SIM u f') (hT : ST f') (hc : CHG zr f hi r zr' f' hi') : INV (bgV V nx u) (kNx r nx) (kSz r sz) sv z g zr' f' hi' sl svr tx td := by
  obtain ⟨hn, hs, h3, h0, ht, hh, hsl, hp, hd⟩ := h
  have e0 : bgV V nx u 0 = u := by unfold bgV; rw [setC_i]
  rcases hc with ⟨c1, rfl, rfl, rfl⟩ | ⟨c1, rfl, rfl⟩
  · unfold kNx kSz
    rw [if_pos c1, if_pos c1]
    exact ⟨hn, hs, h3, by rw [e0]; exact hS, hT, HIST_same hn hs hh, SLOT_bg hsl, hp, hd⟩
  · unfold kNx kSz
    rw [if_neg c1, if_neg c1]
    have h7 := changes_7 zr
    refine ⟨Nat.mod_lt _ (by decide), by split <;> omega, chz_3 h3 hs, by rw [e0]; exact hS, hT, HIST_chg hn hs h3 hh h0 ht, SLOT_bg hsl, ⟨hp.1, PT_changes hp.2.1, by rw [h7]; exact hp.2.2.1, fun i hi => by rw [h7] at hi; exact hp.2.2.2 i hi⟩, hd⟩
theorem isl_eq (x : Int32) : m_X4_isSlot_r x = 0 ↔ m_X5_isSlot_r x = 0 := by
  unfold m_X4_isSlot_r m_X5_isSlot_r
  have e2 : (nI 2).toInt = 2 := by decide
  constructor
  · intro h
    have n0 : ¬ x = 0 := by rintro rfl; exact absurd h (by decide +kernel)
    have n1 : ¬ x = nI 1 := by rintro rfl; exact absurd h (by decide +kernel)
    rw [if_neg n0, if_neg n1]; rfl
  · intro h
    by_cases c0 : x < 0
    · rw [if_pos c0]; rfl
    · rw [if_neg c0]
      by_cases c2 : nI 2 ≤ x
      · rw [if_pos c2]; rfl
      · exfalso
        obtain ⟨e, he⟩ := k_ltn (n := 2) (by decide) c0 (Int32.not_le.mp c2)
        rcases (by omega : tn x = 0 ∨ tn x = 1) with q | q
        · rw [q] at e; rw [e, if_pos (show nI 0 = 0 from rfl)] at h; exact absurd h (by decide)
        · rw [q] at e; rw [e, if_neg (show ¬ nI 1 = 0 by decide +kernel), if_pos rfl] at h; exact absurd h (by decide)
theorem slotj {x : Int32} (h : ¬ m_X5_isSlot_r x = 0) : ∃ i, i < 2 ∧ x = nI i := slot_of (fun e => h ((isl_eq x).mp e))
