/-! Texts: what is put into the pads is the same -/
theorem sh8 (y : Int64) : ((y.toUInt64 >>> ((nI 8).toInt64.toUInt64 &&& Int64.toUInt64 63)).toInt64).toUInt64.toNat = y.toUInt64.toNat / 256 := by
  have e : ((nI 8).toInt64.toUInt64 &&& Int64.toUInt64 63).toNat % 64 = 8 := by decide +kernel
  show (y.toUInt64 >>> ((nI 8).toInt64.toUInt64 &&& Int64.toUInt64 63)).toNat = _
  rw [UInt64.toNat_shiftRight, e, Nat.shiftRight_eq_div_pow]
theorem l_zero {y : Int64} (h : y.toUInt64.toNat = 0) : y = 0 := by
  have h2 : y.toBitVec = (0 : Int64).toBitVec := by
    apply BitVec.eq_of_toNat_eq
    exact h
  exact Int64.toBitVec_inj.mp h2
theorem in_l {v lo up : Int64} : m_X5_in_r v lo up = 0 ↔ (v < lo ∨ up < v) := by
  unfold m_X5_in_r
  by_cases c1 : v < lo
  · rw [if_pos c1]; exact ⟨fun _ => Or.inl c1, fun _ => rfl⟩
  · rw [if_neg c1]
    by_cases c2 : up < v
    · rw [if_pos c2]; exact ⟨fun _ => Or.inr c2, fun _ => rfl⟩
    · rw [if_neg c2]
      refine ⟨fun h => absurd h (by decide), fun h => ?_⟩
      rcases h with h | h
      · exact absurd h c1
      · exact absurd h c2
theorem size_cof : ∀ (r : Nat) (y : Int64) (i : Nat), y.toUInt64.toNat < 256 ^ r → lp_size r y i = lp_cof r y i := by
  intro r
  induction r with
  | zero =>
    intro y i h
    have e : y = 0 := l_zero (by simpa using h)
    rw [lp_size, lp_cof, if_pos e]
  | succ r ih =>
    intro y i h
    rw [lp_size, lp_cof]
    by_cases c0 : y = 0
    · have e : m_X5_in_r (y &&& 255) 33 126 = 0 := in_l.mpr (Or.inl (by rw [c0]; decide))
      rw [if_pos c0, if_pos e, if_pos c0]
    · rw [if_neg c0]
      by_cases c1 : y &&& 255 < 33
      · rw [if_pos c1, if_pos (in_l.mpr (Or.inl c1)), if_neg c0]
      · rw [if_neg c1]
        by_cases c2 : 126 < y &&& 255
        · rw [if_pos c2, if_pos (in_l.mpr (Or.inr c2)), if_neg c0]
        · have e : ¬ m_X5_in_r (y &&& 255) 33 126 = 0 := fun n => by
            rcases in_l.mp n with n | n
            · exact c1 n
            · exact c2 n
          rw [if_neg c2, if_neg e, ih]
          rw [sh8]
          exact Nat.div_lt_of_lt_mul (by rw [Nat.pow_succ, Nat.mul_comm] at h; exact h)
theorem size_eq (x : Int64) : m_X2_sizeOf_r x = m_X5_charactersOf_r x := size_cof 8 x 0 (Nat.lt_of_lt_of_le x.toUInt64.toNat_lt (by decide))
theorem and255 (v : Int64) : ∃ k, k < 256 ∧ (v &&& 255).toInt32 = nI k := by
  have e : v &&& 255 = lN (v.toBitVec.toNat % 256) := by
    apply Int64.toBitVec_inj.mp
    apply BitVec.eq_of_toNat_eq
    rw [Int64.toBitVec_and, BitVec.toNat_and]
    show v.toBitVec.toNat &&& (2 ^ 8 - 1) = (BitVec.ofNat 64 (v.toBitVec.toNat % 256)).toNat
    rw [Nat.and_two_pow_sub_one_eq_mod, BitVec.toNat_ofNat]
    exact (Nat.mod_eq_of_lt (by omega)).symm
  rw [e, lN_i]
  exact ⟨_, Nat.mod_lt _ (by decide), rfl⟩
theorem char_eq {k : Nat} (hk : k < 256) : ((nI k).toUInt32 % 65536).toInt32 = nI k := by
  have e : (nI k).toUInt32 % 65536 = (nI k).toUInt32 := by
    apply UInt32.toNat_inj.mp
    rw [UInt32.toNat_mod]
    have h : (nI k).toUInt32.toNat = k := by
      show (nI k).toBitVec.toNat = k
      exact pk_tn (by omega)
    rw [h]
    exact Nat.mod_eq_of_lt (Nat.lt_trans hk (by decide))
  rw [e]
  rfl
theorem app_put (x : Int64) (n L : Nat) : ∀ (r i : Nat) (g tx : Nat → Int32), i + r = n → (∀ k, k < L + i → g k = tx k) → ∀ k, k < L + n → lp_app x n L r i g k = lp_put x n L r i tx k := by
  intro r
  induction r with
  | zero =>
    intro i g tx hi h k hk
    exact h k (by omega)
  | succ r ih =>
    intro i g tx hi h k hk
    rw [lp_app, lp_put]
    refine ih (i + 1) _ _ (by omega) (fun q hq => ?_) k hk
    obtain ⟨c, hc, e⟩ := and255 ((x.toUInt64 >>> (((nI 8) * (((nI n) - (nI 1)) - (nI i))).toInt64.toUInt64 &&& Int64.toUInt64 63)).toInt64)
    rw [e, char_eq hc]
    by_cases eq : q = L + i
    · subst eq; rw [pk_us, pk_us]
    · rw [pk_un eq, pk_un eq]; exact h q (by omega)
/-- the pad and the reference's text hold the same -/
def PADR (z g zr tx : Nat → Int32) : Prop := PD z ∧ PT zr ∧ z 1 = zr 7 ∧ ∀ i, i < tn (zr 7) → g i = tx i
theorem PT_put {z : Nat → Int32} {x : Int64} (h : PT z) : PT (m_X5_put_z z x) := by
  unfold m_X5_put_z
  by_cases c1 : tn (m_X5_charactersOf_r x) = 0
  · rw [if_pos c1]; exact h
  · rw [if_neg c1]
    by_cases c2 : tn (z 7) + tn (m_X5_charactersOf_r x) ≤ 80
    · rw [if_pos c2]; exact PT_tl h c2
    · rw [if_neg c2]; exact h
theorem S_put {z g zr tx : Nat → Int32} {x : Int64} (h : PADR z g zr tx) : m_X2_append_r z x = m_X5_put_r zr x ∧ PADR (m_X2_append_z z x) (m_X2_append_g z g x) (m_X5_put_z zr x) (m_X5_put_tx zr tx x) ∧ (∀ i, i ≠ 7 → m_X5_put_z zr x i = zr i) := by
  have hz := PD_X2_append (x := x) h.1
  have hr := PT_put (x := x) h.2.1
  obtain ⟨hp, hq, e1, hg⟩ := h
  unfold PADR
  rw [m_X2_append_r, m_X5_put_r]
  rw [m_X2_append_z] at hz ⊢
  rw [m_X5_put_z] at hr ⊢
  rw [m_X2_append_g, m_X5_put_tx, size_eq, e1]
  rw [size_eq, e1] at hz
  obtain ⟨n, hn⟩ : ∃ n, tn (m_X5_charactersOf_r x) = n := ⟨_, rfl⟩
  rw [hn] at hz hr ⊢
  by_cases c1 : n = 0
  · rw [if_pos c1] at hz hr
    rw [if_pos c1, if_pos c1, if_pos c1, if_pos c1, if_pos c1]
    exact ⟨rfl, ⟨hz, hr, e1, hg⟩, fun _ _ => rfl⟩
  · rw [if_neg c1] at hz hr
    rw [if_neg c1, if_neg c1, if_neg c1, if_neg c1, if_neg c1]
    by_cases c2 : tn (zr 7) + n ≤ 80
    · rw [if_pos c2] at hz hr
      rw [if_pos c2, if_pos c2, if_pos c2, if_pos c2, if_pos c2]
      refine ⟨rfl, ⟨hz, hr, rfl, fun i hi => ?_⟩, fun i hi => pk_un hi⟩
      rw [pk_us, tn_of rfl (by omega)] at hi
      exact app_put x n (tn (zr 7)) n 0 g tx (by omega) (fun k hk => hg k (by omega)) i hi
    · rw [if_neg c2] at hz hr
      rw [if_neg c2, if_neg c2, if_neg c2, if_neg c2, if_neg c2]
      exact ⟨rfl, ⟨hz, hr, e1, hg⟩, fun _ _ => rfl⟩
theorem S_wipe {z g zr tx : Nat → Int32} (h : PADR z g zr tx) : m_X2_clear_r z = m_X5_wipe_r zr ∧ PADR (m_X2_clear_z z) g (m_X5_wipe_z zr) tx := by
  refine ⟨?_, PD_X2_clear h.1, PT_tl h.2.1 (by decide), rfl, fun i hi => ?_⟩
  · rw [m_X2_clear_r, m_X5_wipe_r, ← h.2.2.1]; exact h.1.1.1.symm
  · have e : tn (m_X5_wipe_z zr 7) = 0 := tn_of (show m_X5_wipe_z zr 7 = nI 0 from rfl) (by decide)
    rw [e] at hi
    exact absurd hi (Nat.not_lt_zero i)
