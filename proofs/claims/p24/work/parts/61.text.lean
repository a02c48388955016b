/-! The text: what an order is, how it is read and carried out -/
theorem sh8 (y : Int64) : ((y.toUInt64 >>> ((nI 8).toInt64.toUInt64 &&& Int64.toUInt64 63)).toInt64).toUInt64.toNat = y.toUInt64.toNat / 256 := by
  have e : ((nI 8).toInt64.toUInt64 &&& Int64.toUInt64 63).toNat % 64 = 8 := by decide +kernel
  show (y.toUInt64 >>> ((nI 8).toInt64.toUInt64 &&& Int64.toUInt64 63)).toNat = _
  rw [UInt64.toNat_shiftRight, e, Nat.shiftRight_eq_div_pow]
theorem l_zero {y : Int64} (h : y.toUInt64.toNat = 0) : y = 0 := by
  have h2 : y.toBitVec = (0 : Int64).toBitVec := by
    apply BitVec.eq_of_toNat_eq
    exact h
  exact Int64.toBitVec_inj.mp h2
theorem and255 (v : Int64) : ∃ k, k < 256 ∧ (v &&& 255).toInt32 = nI k := by
  have e : v &&& 255 = lN (v.toBitVec.toNat % 256) := by
    apply Int64.toBitVec_inj.mp
    apply BitVec.eq_of_toNat_eq
    rw [Int64.toBitVec_and, BitVec.toNat_and]
    show v.toBitVec.toNat &&& (2 ^ 8 - 1) = (BitVec.ofNat 64 (v.toBitVec.toNat % 256)).toNat
    rw [Nat.and_two_pow_sub_one_eq_mod, BitVec.toNat_ofNat]
    exact (Nat.mod_eq_of_lt (by omega)).symm
  rw [e, lN_i]
  exact ⟨_, Nat.mod_lt _ (by decide), rfl⟩
theorem char_eq {k : Nat} (hk : k < 256) : ((nI k).toUInt32 % 65536).toInt32 = nI k := by
  have e : (nI k).toUInt32 % 65536 = (nI k).toUInt32 := by
    apply UInt32.toNat_inj.mp
    rw [UInt32.toNat_mod]
    have h : (nI k).toUInt32.toNat = k := by
      show (nI k).toBitVec.toNat = k
      exact pk_tn (by omega)
    rw [h]
    exact Nat.mod_eq_of_lt (Nat.lt_trans hk (by decide))
  rw [e]
  rfl
def coC_r (y g : Nat → Int32) : Int32 := if (m_X2_readSign_r y g (nI 102)) = 0 then (if (m_X2_readSign_r (m_X2_readSign_z y g (nI 102)) g (nI 116)) = 0 then (if (m_X2_readSign_r (m_X2_readSign_z (m_X2_readSign_z y g (nI 102)) g (nI 116)) g (nI 113)) = 0 then (if (m_X2_readSign_r (m_X2_readSign_z (m_X2_readSign_z (m_X2_readSign_z y g (nI 102)) g (nI 116)) g (nI 113)) g (nI 109)) = 0 then nI 0 else if (m_X2_readDigit_z (upd (m_X2_readSign_z (m_X2_readSign_z (m_X2_readSign_z (m_X2_readSign_z y g (nI 102)) g (nI 116)) g (nI 113)) g (nI 109)) 4 (nI 109)) g) 3 = 0 then nI 1 else nI 0) else if (m_X2_readBounds_z (m_X2_readSign_z (m_X2_readSign_z (m_X2_readSign_z y g (nI 102)) g (nI 116)) g (nI 113)) g) 3 = 0 then nI 1 else nI 0) else if (m_X2_readNumber_z (upd (m_X2_readSign_z (m_X2_readSign_z y g (nI 102)) g (nI 116)) 4 (nI 116)) g) 3 = 0 then nI 1 else nI 0) else if (m_X2_readFrames_z (m_X2_readSign_z y g (nI 102)) g) 3 = 0 then nI 1 else nI 0
def coC_z (y g : Nat → Int32) : Nat → Int32 := if (m_X2_readSign_r y g (nI 102)) = 0 then (if (m_X2_readSign_r (m_X2_readSign_z y g (nI 102)) g (nI 116)) = 0 then (if (m_X2_readSign_r (m_X2_readSign_z (m_X2_readSign_z y g (nI 102)) g (nI 116)) g (nI 113)) = 0 then (if (m_X2_readSign_r (m_X2_readSign_z (m_X2_readSign_z (m_X2_readSign_z y g (nI 102)) g (nI 116)) g (nI 113)) g (nI 109)) = 0 then upd (m_X2_readSign_z (m_X2_readSign_z (m_X2_readSign_z (m_X2_readSign_z y g (nI 102)) g (nI 116)) g (nI 113)) g (nI 109)) 3 (nI 1) else if (m_X2_readDigit_z (upd (m_X2_readSign_z (m_X2_readSign_z (m_X2_readSign_z (m_X2_readSign_z y g (nI 102)) g (nI 116)) g (nI 113)) g (nI 109)) 4 (nI 109)) g) 3 = 0 then upd (m_X2_readDigit_z (upd (m_X2_readSign_z (m_X2_readSign_z (m_X2_readSign_z (m_X2_readSign_z y g (nI 102)) g (nI 116)) g (nI 113)) g (nI 109)) 4 (nI 109)) g) 5 (m_X2_readDigit_r (upd (m_X2_readSign_z (m_X2_readSign_z (m_X2_readSign_z (m_X2_readSign_z y g (nI 102)) g (nI 116)) g (nI 113)) g (nI 109)) 4 (nI 109)) g) else upd (m_X2_readDigit_z (upd (m_X2_readSign_z (m_X2_readSign_z (m_X2_readSign_z (m_X2_readSign_z y g (nI 102)) g (nI 116)) g (nI 113)) g (nI 109)) 4 (nI 109)) g) 5 (m_X2_readDigit_r (upd (m_X2_readSign_z (m_X2_readSign_z (m_X2_readSign_z (m_X2_readSign_z y g (nI 102)) g (nI 116)) g (nI 113)) g (nI 109)) 4 (nI 109)) g)) else if (m_X2_readBounds_z (m_X2_readSign_z (m_X2_readSign_z (m_X2_readSign_z y g (nI 102)) g (nI 116)) g (nI 113)) g) 3 = 0 then (m_X2_readBounds_z (m_X2_readSign_z (m_X2_readSign_z (m_X2_readSign_z y g (nI 102)) g (nI 116)) g (nI 113)) g) else (m_X2_readBounds_z (m_X2_readSign_z (m_X2_readSign_z (m_X2_readSign_z y g (nI 102)) g (nI 116)) g (nI 113)) g)) else if (m_X2_readNumber_z (upd (m_X2_readSign_z (m_X2_readSign_z y g (nI 102)) g (nI 116)) 4 (nI 116)) g) 3 = 0 then upd (m_X2_readNumber_z (upd (m_X2_readSign_z (m_X2_readSign_z y g (nI 102)) g (nI 116)) 4 (nI 116)) g) 5 (m_X2_readNumber_r (upd (m_X2_readSign_z (m_X2_readSign_z y g (nI 102)) g (nI 116)) 4 (nI 116)) g) else upd (m_X2_readNumber_z (upd (m_X2_readSign_z (m_X2_readSign_z y g (nI 102)) g (nI 116)) 4 (nI 116)) g) 5 (m_X2_readNumber_r (upd (m_X2_readSign_z (m_X2_readSign_z y g (nI 102)) g (nI 116)) 4 (nI 116)) g)) else if (m_X2_readFrames_z (m_X2_readSign_z y g (nI 102)) g) 3 = 0 then (m_X2_readFrames_z (m_X2_readSign_z y g (nI 102)) g) else (m_X2_readFrames_z (m_X2_readSign_z y g (nI 102)) g)
theorem coC_eq (z g : Nat → Int32) : m_X2_readOrder_r z g = (if tn (z 2) ≤ 0 then coC_r (upd z 8 (nI 1)) g else if (m_X2_readSign_r z g (nI 59)) = 0 then nI 0 else coC_r (upd (m_X2_readSign_z z g (nI 59)) 8 (nI 1)) g) ∧ m_X2_readOrder_z z g = (if tn (z 2) ≤ 0 then coC_z (upd z 8 (nI 1)) g else if (m_X2_readSign_r z g (nI 59)) = 0 then (m_X2_readSign_z z g (nI 59)) else coC_z (upd (m_X2_readSign_z z g (nI 59)) 8 (nI 1)) g) := ⟨rfl, rfl⟩
def H (t : Nat → Int32) (L a : Nat) (c : Int32) : Prop := a < L ∧ t a = c
def Dg (t : Nat → Int32) (L a : Nat) : Prop := a < L ∧ ¬ t a < nI 48 ∧ ¬ nI 57 < t a
def NUM (t : Nat → Int32) (L a : Nat) (v : Int32) (e : Nat) : Prop := Dg t L a ∧ ((t a - nI 48 ≤ 0 ∨ ¬ Dg t L (a + 1)) ∧ v = t a - nI 48 ∧ e = a + 1 ∨ ¬ t a - nI 48 ≤ 0 ∧ Dg t L (a + 1) ∧ v = nI 10 * (t a - nI 48) + (t (a + 1) - nI 48) ∧ e = a + 2)
theorem num_ex {t : Nat → Int32} {L a : Nat} (h : Dg t L a) : ∃ v e, NUM t L a v e := by
  by_cases c1 : t a - nI 48 ≤ 0
  · exact ⟨_, _, h, Or.inl ⟨Or.inl c1, rfl, rfl⟩⟩
  · by_cases c2 : Dg t L (a + 1)
    · exact ⟨_, _, h, Or.inr ⟨c1, c2, rfl, rfl⟩⟩
    · exact ⟨_, _, h, Or.inl ⟨Or.inr c2, rfl, rfl⟩⟩
theorem num_le {t : Nat → Int32} {L a e : Nat} {v : Int32} (h : NUM t L a v e) : a < e ∧ e ≤ L := by
  obtain ⟨h1, h2⟩ := h
  have := h1.1
  rcases h2 with ⟨-, -, rfl⟩ | ⟨-, h3, -, rfl⟩
  · omega
  · have := h3.1; omega
theorem H_ne {t : Nat → Int32} {L a : Nat} {c c' : Int32} (h : H t L a c) (hn : ¬ c = c') : ¬ H t L a c' := fun h2 => hn (h.2.symm.trans h2.2)
def PC (y : Nat → Int32) (L a : Nat) : Prop := y 1 = nI L ∧ y 2 = nI a ∧ y 3 = nI 0 ∧ a ≤ L ∧ L ≤ 80
def AG2 (g t : Nat → Int32) (L : Nat) : Prop := ∀ i, i < L → g i = t i
theorem PC_adv {y : Nat → Int32} {L a b : Nat} (h : PC y L a) (hb : b ≤ L) : PC (upd y 2 (nI b)) L b := ⟨h.1, rfl, h.2.2.1, hb, h.2.2.2.2⟩
theorem PC_u {y : Nat → Int32} {L a i : Nat} {x : Int32} (h : PC y L a) (h1 : i ≠ 1) (h2 : i ≠ 2) (h3 : i ≠ 3) : PC (upd y i x) L a := ⟨(pk_un (fun e => h1 e.symm)).trans h.1, (pk_un (fun e => h2 e.symm)).trans h.2.1, (pk_un (fun e => h3 e.symm)).trans h.2.2.1, h.2.2.2⟩
theorem PC_1 {y : Nat → Int32} {L a : Nat} (h : PC y L a) : tn (y 1) = L := tn_of h.1 (by have := h.2.2.2.2; omega)
theorem PC_2 {y : Nat → Int32} {L a : Nat} (h : PC y L a) : tn (y 2) = a := tn_of h.2.1 (by have := h.2.2.2; omega)
theorem cs_no {y g t : Nat → Int32} {L a : Nat} {c : Int32} (hg : AG2 g t L) (h : PC y L a) (hn : ¬ H t L a c) : m_X2_readSign_r y g c = 0 ∧ m_X2_readSign_z y g c = y := by
  rw [m_X2_readSign_r, m_X2_readSign_z, if_pos (show y 3 = 0 from h.2.2.1), if_pos (show y 3 = 0 from h.2.2.1), PC_1 h, PC_2 h]
  by_cases c1 : L ≤ a
  · rw [if_pos c1, if_pos c1]; exact ⟨rfl, rfl⟩
  · have e : ¬ g a = c := fun e => hn ⟨by omega, by rw [← hg a (by omega)]; exact e⟩
    rw [if_neg c1, if_neg c1, if_neg e, if_neg e]; exact ⟨rfl, rfl⟩
theorem cs_yes {y g t : Nat → Int32} {L a : Nat} {c : Int32} (hg : AG2 g t L) (h : PC y L a) (hh : H t L a c) : ¬ m_X2_readSign_r y g c = 0 ∧ m_X2_readSign_z y g c = upd y 2 (nI (a + 1)) := by
  have e : g a = c := by rw [hg a hh.1]; exact hh.2
  have hl := hh.1
  rw [m_X2_readSign_r, m_X2_readSign_z, if_pos (show y 3 = 0 from h.2.2.1), if_pos (show y 3 = 0 from h.2.2.1), PC_1 h, PC_2 h, if_neg (show ¬ L ≤ a by omega), if_neg (show ¬ L ≤ a by omega), if_pos e, if_pos e]
  exact ⟨by decide +kernel, rfl⟩
theorem ds_no {y g t : Nat → Int32} {L a : Nat} (hg : AG2 g t L) (h : PC y L a) (hn : ¬ Dg t L a) : m_X2_digitStands_r y g = 0 := by
  rw [m_X2_digitStands_r, if_pos (show y 3 = 0 from h.2.2.1), PC_1 h, PC_2 h]
  by_cases c1 : L ≤ a
  · rw [if_pos c1]; rfl
  · rw [if_neg c1]
    by_cases c2 : g a < nI 48
    · rw [if_pos c2]; rfl
    · rw [if_neg c2]
      by_cases c3 : nI 57 < g a
      · rw [if_pos c3]; rfl
      · exact absurd ⟨by omega, by rw [← hg a (by omega)]; exact c2, by rw [← hg a (by omega)]; exact c3⟩ hn
theorem ds_yes {y g t : Nat → Int32} {L a : Nat} (hg : AG2 g t L) (h : PC y L a) (hd : Dg t L a) : ¬ m_X2_digitStands_r y g = 0 := by
  obtain ⟨d1, d2, d3⟩ := hd
  rw [← hg a d1] at d2 d3
  rw [m_X2_digitStands_r, if_pos (show y 3 = 0 from h.2.2.1), PC_1 h, PC_2 h, if_neg (by omega), if_neg d2, if_neg d3]
  decide +kernel
theorem cd_no {y g t : Nat → Int32} {L a : Nat} (hg : AG2 g t L) (h : PC y L a) (hn : ¬ Dg t L a) : m_X2_readDigit_r y g = nI 0 ∧ m_X2_readDigit_z y g = upd y 3 (nI 1) := by
  have e := ds_no hg h hn
  rw [m_X2_readDigit_r, m_X2_readDigit_z, if_pos e, if_pos e]
  exact ⟨rfl, rfl⟩
theorem cd_yes {y g t : Nat → Int32} {L a : Nat} (hg : AG2 g t L) (h : PC y L a) (hd : Dg t L a) : m_X2_readDigit_r y g = t a - nI 48 ∧ m_X2_readDigit_z y g = upd y 2 (nI (a + 1)) := by
  have e := ds_yes hg h hd
  rw [m_X2_readDigit_r, m_X2_readDigit_z, if_neg e, if_neg e, PC_2 h, hg a hd.1]
  exact ⟨rfl, rfl⟩
theorem upd_upd {f : Nat → Int32} {i : Nat} {x y : Int32} : upd (upd f i x) i y = upd f i y := by
  funext j
  by_cases e : j = i
  · subst e; rw [pk_us, pk_us]
  · rw [pk_un e, pk_un e, pk_un e]
theorem cn_no {y g t : Nat → Int32} {L a : Nat} (hg : AG2 g t L) (h : PC y L a) (hn : ¬ Dg t L a) : m_X2_readNumber_r y g = nI 0 ∧ m_X2_readNumber_z y g = upd y 3 (nI 1) := by
  obtain ⟨e1, e2⟩ := cd_no hg h hn
  rw [m_X2_readNumber_r, m_X2_readNumber_z, e1, e2, if_pos (by decide), if_pos (by decide)]
  exact ⟨rfl, rfl⟩
theorem cn_yes {y g t : Nat → Int32} {L a e : Nat} {v : Int32} (hg : AG2 g t L) (h : PC y L a) (hv : NUM t L a v e) : m_X2_readNumber_r y g = v ∧ m_X2_readNumber_z y g = upd y 2 (nI e) := by
  obtain ⟨hd, hv⟩ := hv
  obtain ⟨e1, e2⟩ := cd_yes hg h hd
  have hp : PC (upd y 2 (nI (a + 1))) L (a + 1) := PC_adv h (by have := hd.1; omega)
  rw [m_X2_readNumber_r, m_X2_readNumber_z, e1, e2]
  rcases hv with ⟨hv1, rfl, rfl⟩ | ⟨hv1, hv2, rfl, rfl⟩
  · by_cases c : t a - nI 48 ≤ 0
    · rw [if_pos c, if_pos c]; exact ⟨rfl, rfl⟩
    · rcases hv1 with hv1 | hv1
      · exact absurd hv1 c
      · have e3 := ds_no hg hp hv1
        rw [if_neg c, if_neg c, if_pos e3, if_pos e3]; exact ⟨rfl, rfl⟩
  · have e3 := ds_yes hg hp hv2
    obtain ⟨e4, e5⟩ := cd_yes hg hp hv2
    rw [if_neg hv1, if_neg hv1, if_neg e3, if_neg e3, e4, e5, upd_upd]; exact ⟨rfl, rfl⟩
theorem bs {y g : Nat → Int32} {c : Int32} (h : y 3 = nI 1) : m_X2_readSign_r y g c = 0 ∧ m_X2_readSign_z y g c = y := by
  have n : ¬ y 3 = 0 := by rw [h]; decide +kernel
  rw [m_X2_readSign_r, m_X2_readSign_z, if_neg n, if_neg n]
  exact ⟨rfl, rfl⟩
theorem bn {y g : Nat → Int32} (h : y 3 = nI 1) : m_X2_readNumber_r y g = nI 0 ∧ m_X2_readNumber_z y g = y := by
  have n : ¬ y 3 = 0 := by rw [h]; decide +kernel
  have d : m_X2_digitStands_r y g = 0 := by rw [m_X2_digitStands_r, if_neg n]; rfl
  have e : upd y 3 (nI 1) = y := upd_id h
  have e1 : m_X2_readDigit_r y g = nI 0 := by rw [m_X2_readDigit_r, if_pos d]
  have e2 : m_X2_readDigit_z y g = y := by rw [m_X2_readDigit_z, if_pos d, e]
  rw [m_X2_readNumber_r, m_X2_readNumber_z, e1, e2, if_pos (by decide), if_pos (by decide)]
  exact ⟨rfl, rfl⟩
theorem bd {y g : Nat → Int32} {c : Int32} (h : y 3 = nI 1) : m_X2_demand_z y g c = y := by
  rw [m_X2_demand_z, (bs h).1, (bs h).2, if_pos rfl, upd_id h]
theorem dm_yes {y g t : Nat → Int32} {L a : Nat} {c : Int32} (hg : AG2 g t L) (h : PC y L a) (hh : H t L a c) : m_X2_demand_z y g c = upd y 2 (nI (a + 1)) := by
  obtain ⟨e1, e2⟩ := cs_yes hg h hh
  rw [m_X2_demand_z, if_neg e1, e2]
theorem dm_no {y g t : Nat → Int32} {L a : Nat} {c : Int32} (hg : AG2 g t L) (h : PC y L a) (hn : ¬ H t L a c) : m_X2_demand_z y g c = upd y 3 (nI 1) := by
  obtain ⟨e1, e2⟩ := cs_no hg h hn
  rw [m_X2_demand_z, if_pos e1, e2]
def OE (t : Nat → Int32) (L a e : Nat) (k f1 f2 f3 tm : Int32) : Prop :=
  (k = nI 102 ∧ H t L a (nI 102) ∧ ∃ b, NUM t L (a + 1) f1 b ∧ ((¬ H t L b (nI 42) ∧ e = b ∧ tm = nI 1) ∨ (H t L b (nI 42) ∧ NUM t L (b + 1) tm e))) ∨
  (k = nI 116 ∧ H t L a (nI 116) ∧ NUM t L (a + 1) f1 e ∧ tm = nI 1) ∨
  (k = nI 113 ∧ H t L a (nI 113) ∧ Dg t L (a + 1) ∧ f1 = t (a + 1) - nI 48 ∧ H t L (a + 1 + 1) (nI 61) ∧ tm = nI 1 ∧ ∃ c, NUM t L (a + 1 + 1 + 1) f2 c ∧ H t L c (nI 44) ∧ NUM t L (c + 1) f3 e) ∨
  (k = nI 109 ∧ H t L a (nI 109) ∧ Dg t L (a + 1) ∧ f1 = t (a + 1) - nI 48 ∧ e = a + 1 + 1 ∧ tm = nI 1)
theorem OE_le {t : Nat → Int32} {L a e : Nat} {k f1 f2 f3 tm : Int32} (h : OE t L a e k f1 f2 f3 tm) : a + 2 ≤ e ∧ e ≤ L := by
  rcases h with ⟨-, -, b, hn, h2⟩ | ⟨-, -, hn, -⟩ | ⟨-, -, -, -, -, -, c, hn, -, hn2⟩ | ⟨-, -, hd, -, rfl, -⟩
  · have h1 := num_le hn
    rcases h2 with ⟨-, rfl, -⟩ | ⟨-, hn2⟩
    · omega
    · have := num_le hn2; omega
  · have := num_le hn; omega
  · have h1 := num_le hn
    have h2 := num_le hn2
    omega
  · have := hd.1; omega
theorem l116 {t : Nat → Int32} {L a : Nat} (h : H t L a (nI 116)) : ¬ H t L a (nI 102) := H_ne h (by decide +kernel)
theorem l113 {t : Nat → Int32} {L a : Nat} (h : H t L a (nI 113)) : ¬ H t L a (nI 102) ∧ ¬ H t L a (nI 116) := ⟨H_ne h (by decide +kernel), H_ne h (by decide +kernel)⟩
theorem l109 {t : Nat → Int32} {L a : Nat} (h : H t L a (nI 109)) : ¬ H t L a (nI 102) ∧ ¬ H t L a (nI 116) ∧ ¬ H t L a (nI 113) := ⟨H_ne h (by decide +kernel), H_ne h (by decide +kernel), H_ne h (by decide +kernel)⟩
section
variable {y g t : Nat → Int32} {L a b c e : Nat} {v v2 v3 : Int32}
theorem rf_1 (hg : AG2 g t L) (h : PC y L a) (hn : NUM t L a v b) (hs : ¬ H t L b (nI 42)) : m_X2_readFrames_z y g = upd (upd (upd y 4 (nI 102)) 2 (nI b)) 5 v := by
  have h2 : PC (upd y 4 (nI 102)) L a := PC_u h (by decide) (by decide) (by decide)
  obtain ⟨n1, n2⟩ := cn_yes hg h2 hn
  have h3 : PC (upd (upd (upd y 4 (nI 102)) 2 (nI b)) 5 v) L b := PC_u (PC_adv h2 (num_le hn).2) (by decide) (by decide) (by decide)
  obtain ⟨s1, s2⟩ := cs_no hg h3 hs
  rw [m_X2_readFrames_z, n1, n2, s2, if_pos s1]
end
section
variable {y g t : Nat → Int32} {L a b c e : Nat} {v v2 v3 : Int32}
theorem rf_2 (hg : AG2 g t L) (h : PC y L a) (hn : NUM t L a v b) (hs : H t L b (nI 42)) (hn2 : NUM t L (b + 1) v2 e) : m_X2_readFrames_z y g = upd (upd (upd (upd (upd (upd y 4 (nI 102)) 2 (nI b)) 5 v) 2 (nI (b + 1))) 2 (nI e)) 8 v2 := by
  have h2 : PC (upd y 4 (nI 102)) L a := PC_u h (by decide) (by decide) (by decide)
  obtain ⟨n1, n2⟩ := cn_yes hg h2 hn
  have h3 : PC (upd (upd (upd y 4 (nI 102)) 2 (nI b)) 5 v) L b := PC_u (PC_adv h2 (num_le hn).2) (by decide) (by decide) (by decide)
  obtain ⟨s1, s2⟩ := cs_yes hg h3 hs
  have h4 := PC_adv h3 (b := b + 1) hs.1
  obtain ⟨m1, m2⟩ := cn_yes hg h4 hn2
  rw [m_X2_readFrames_z, n1, n2, if_neg s1, s2, m1, m2]
end
section
variable {y g t : Nat → Int32} {L a b c e : Nat} {v v2 v3 : Int32}
theorem rb_ok (hg : AG2 g t L) (h : PC y L a) (hd : Dg t L a) (h61 : H t L (a + 1) (nI 61)) (hn : NUM t L (a + 1 + 1) v2 c) (h44 : H t L c (nI 44)) (hn2 : NUM t L (c + 1) v3 e) : m_X2_readBounds_z y g = upd (upd (upd (upd (upd (upd (upd (upd (upd y 4 (nI 113)) 2 (nI (a + 1))) 5 (t a - nI 48)) 2 (nI (a + 1 + 1))) 2 (nI c)) 6 v2) 2 (nI (c + 1))) 2 (nI e)) 7 v3 := by
  have h2 : PC (upd y 4 (nI 113)) L a := PC_u h (by decide) (by decide) (by decide)
  obtain ⟨d1, d2⟩ := cd_yes hg h2 hd
  have h3 : PC (upd (upd (upd y 4 (nI 113)) 2 (nI (a + 1))) 5 (t a - nI 48)) L (a + 1) := PC_u (PC_adv h2 hd.1) (by decide) (by decide) (by decide)
  have m1 := dm_yes hg h3 h61
  have h4 := PC_adv h3 (b := a + 1 + 1) h61.1
  obtain ⟨n1, n2⟩ := cn_yes hg h4 hn
  have h5 := PC_u (i := 6) (x := v2) (PC_adv h4 (num_le hn).2) (by decide) (by decide) (by decide)
  have m2 := dm_yes hg h5 h44
  have h6 := PC_adv h5 (b := c + 1) h44.1
  obtain ⟨k1, k2⟩ := cn_yes hg h6 hn2
  rw [m_X2_readBounds_z, d1, d2, m1, n1, n2, m2, k1, k2]
end
theorem class_ok {y g t : Nat → Int32} {L a e : Nat} {k f1 f2 f3 tm : Int32} (hg : AG2 g t L) (h : PC y L a) (h8 : y 8 = nI 1) (ho : OE t L a e k f1 f2 f3 tm) : ¬ coC_r y g = 0 ∧ PC (coC_z y g) L e ∧ coC_z y g 4 = k ∧ coC_z y g 5 = f1 ∧ (k = nI 113 → coC_z y g 6 = f2 ∧ coC_z y g 7 = f3) ∧ coC_z y g 8 = tm := by
  have hle := (OE_le ho).2
  have n10 : ¬ nI 1 = 0 := by decide +kernel
  have h1 := h.1
  have h3 := h.2.2.1
  have hL := h.2.2.2.2
  have key : ∀ Z : Nat → Int32, Z 1 = y 1 → Z 2 = nI e → Z 3 = y 3 → PC Z L e := fun Z z1 z2 z3 => ⟨z1.trans h1, z2, z3.trans h3, hle, hL⟩
  have kr : ∀ Z : Nat → Int32, Z 3 = y 3 → ¬ (if Z 3 = 0 then nI 1 else nI 0) = 0 := fun Z z3 => by rw [z3, if_pos (show y 3 = 0 from h3)]; exact n10
  rcases ho with ⟨rfl, hH, b, hn, h2⟩ | ⟨rfl, hH, hn, rfl⟩ | ⟨rfl, hH, hd, rfl, h61, rfl, c, hn, h44, hn2⟩ | ⟨rfl, hH, hd, rfl, rfl, rfl⟩
  · obtain ⟨s1, s2⟩ := cs_yes hg h hH
    have hp := PC_adv h (b := a + 1) hH.1
    have n : ¬ nI 102 = nI 113 := by decide +kernel
    rw [coC_r, coC_z, if_neg s1, if_neg s1, s2, ite_self]
    rcases h2 with ⟨hs, rfl, rfl⟩ | ⟨hs, hn2⟩
    · rw [rf_1 hg hp hn hs]
      exact ⟨kr _ rfl, key _ rfl rfl rfl, rfl, rfl, fun q => absurd q n, h8⟩
    · rw [rf_2 hg hp hn hs hn2]
      exact ⟨kr _ rfl, key _ rfl rfl rfl, rfl, rfl, fun q => absurd q n, rfl⟩
  · obtain ⟨s1, s2⟩ := cs_no hg h (l116 hH)
    obtain ⟨t1, t2⟩ := cs_yes hg h hH
    have hp := PC_u (i := 4) (x := nI 116) (PC_adv h (b := a + 1) hH.1) (by decide) (by decide) (by decide)
    obtain ⟨m1, m2⟩ := cn_yes hg hp hn
    have n : ¬ nI 116 = nI 113 := by decide +kernel
    rw [coC_r, coC_z, if_pos s1, if_pos s1, s2, if_neg t1, if_neg t1, t2, ite_self, m1, m2]
    exact ⟨kr _ rfl, key _ rfl rfl rfl, rfl, rfl, fun q => absurd q n, h8⟩
  · obtain ⟨s1, s2⟩ := cs_no hg h (l113 hH).1
    obtain ⟨s3, s4⟩ := cs_no hg h (l113 hH).2
    obtain ⟨t1, t2⟩ := cs_yes hg h hH
    have hp := PC_adv h (b := a + 1) hH.1
    rw [coC_r, coC_z, if_pos s1, if_pos s1, s2, if_pos s3, if_pos s3, s4, if_neg t1, if_neg t1, t2, ite_self, rb_ok hg hp hd h61 hn h44 hn2]
    exact ⟨kr _ rfl, key _ rfl rfl rfl, rfl, rfl, fun _ => ⟨rfl, rfl⟩, h8⟩
  · obtain ⟨s1, s2⟩ := cs_no hg h (l109 hH).1
    obtain ⟨s3, s4⟩ := cs_no hg h (l109 hH).2.1
    obtain ⟨s5, s6⟩ := cs_no hg h (l109 hH).2.2
    obtain ⟨t1, t2⟩ := cs_yes hg h hH
    have hp := PC_u (i := 4) (x := nI 109) (PC_adv h (b := a + 1) hH.1) (by decide) (by decide) (by decide)
    obtain ⟨m1, m2⟩ := cd_yes hg hp hd
    have n : ¬ nI 109 = nI 113 := by decide +kernel
    rw [coC_r, coC_z, if_pos s1, if_pos s1, s2, if_pos s3, if_pos s3, s4, if_pos s5, if_pos s5, s6, if_neg t1, if_neg t1, t2, ite_self, m1, m2]
    exact ⟨kr _ rfl, key _ rfl rfl rfl, rfl, rfl, fun q => absurd q n, h8⟩
theorem ff_0 (g : Nat → Int32) (r : Nat) (z : Nat → Int32) : lp_ff g r z (nI 0) = z := by
  cases r with
  | zero => rfl
  | succ r => rw [lp_ff, if_pos (show nI 0 = 0 from rfl)]
theorem ff_z (g : Nat → Int32) (r : Nat) (z : Nat → Int32) {mo : Int32} (h : mo = 0) : lp_ff g r z mo = z := by
  rw [h]
  exact ff_0 g r z
theorem ffr_ok {z : Nat → Int32} {L a : Nat} (h : PC z L a) : m_ffrest_r z = if L ≤ a then (-6) else nI a := by
  rw [m_ffrest_r, if_pos (show z 3 = 0 from h.2.2.1), PC_1 h, PC_2 h]
theorem rd_no {z g t : Nat → Int32} {L a : Nat} (hg : AG2 g t L) (h : PC z L a) (ha : 0 < a) (hn : ¬ H t L a (nI 59)) : m_X2_readOrder_r z g = 0 ∧ m_X2_readOrder_z z g = z := by
  obtain ⟨s1, s2⟩ := cs_no hg h hn
  obtain ⟨e1, e2⟩ := coC_eq z g
  have c : ¬ tn (z 2) ≤ 0 := by rw [PC_2 h]; omega
  rw [e1, e2, if_neg c, if_neg c, if_pos s1, if_pos s1, s2]
  exact ⟨rfl, rfl⟩
theorem rd_yes {z g t : Nat → Int32} {L a : Nat} (hg : AG2 g t L) (h : PC z L a) (ha : 0 < a) (hh : H t L a (nI 59)) : m_X2_readOrder_r z g = coC_r (upd (upd z 2 (nI (a + 1))) 8 (nI 1)) g ∧ m_X2_readOrder_z z g = coC_z (upd (upd z 2 (nI (a + 1))) 8 (nI 1)) g ∧ PC (upd (upd z 2 (nI (a + 1))) 8 (nI 1)) L (a + 1) := by
  obtain ⟨s1, s2⟩ := cs_yes hg h hh
  obtain ⟨e1, e2⟩ := coC_eq z g
  have c : ¬ tn (z 2) ≤ 0 := by rw [PC_2 h]; omega
  rw [e1, e2, if_neg c, if_neg c, if_neg s1, if_neg s1, s2]
  exact ⟨rfl, rfl, PC_u (PC_adv h hh.1) (by decide) (by decide) (by decide)⟩
theorem rd_0 {z g : Nat → Int32} {L : Nat} (h : PC z L 0) : m_X2_readOrder_r z g = coC_r (upd z 8 (nI 1)) g ∧ m_X2_readOrder_z z g = coC_z (upd z 8 (nI 1)) g ∧ PC (upd z 8 (nI 1)) L 0 := by
  obtain ⟨e1, e2⟩ := coC_eq z g
  have c : tn (z 2) ≤ 0 := by rw [PC_2 h]; omega
  rw [e1, e2, if_pos c, if_pos c]
  exact ⟨rfl, rfl, PC_u h (by decide) (by decide) (by decide)⟩
theorem OE_k {t : Nat → Int32} {L a e : Nat} {k f1 f2 f3 tm : Int32} (h : OE t L a e k f1 f2 f3 tm) : k = nI 102 ∨ (tm = nI 1 ∧ (k = nI 116 ∨ k = nI 113 ∨ k = nI 109)) := by
  rcases h with ⟨rfl, -⟩ | ⟨rfl, -, -, rfl⟩ | ⟨rfl, -, -, -, -, rfl, -⟩ | ⟨rfl, -, -, -, -, rfl⟩
  · exact Or.inl rfl
  · exact Or.inr ⟨rfl, Or.inl rfl⟩
  · exact Or.inr ⟨rfl, Or.inr (Or.inl rfl)⟩
  · exact Or.inr ⟨rfl, Or.inr (Or.inr rfl)⟩
theorem ci_1 (z : Nat → Int32) (u : CS) (n : Nat) : lp_ci z 1 u n = if m_X4_carryOrder_r u z < 0 then (m_X4_carryOrder_u u z, n, 0) else (m_X4_carryOrder_u u z, n + 1, 1) := by
  rw [lp_ci, lp_ci]
def caS (g : Nat → Int32) (r : Nat) (y : Nat → Int32) (u : CS) (n : Nat) : (Nat → Int32) × CS × Nat := if coC_r y g = 0 then (coC_z y g, u, n)
    else if (lp_ci (coC_z y g) (tn (coC_z y g 8)) u n).2.2 = 0 then (coC_z y g, (lp_ci (coC_z y g) (tn (coC_z y g 8)) u n).1, (lp_ci (coC_z y g) (tn (coC_z y g 8)) u n).2.1)
    else lp_ca g r (coC_z y g) (lp_ci (coC_z y g) (tn (coC_z y g 8)) u n).1 (lp_ci (coC_z y g) (tn (coC_z y g 8)) u n).2.1
theorem ca_of {g z y : Nat → Int32} {r n : Nat} {u : CS} (e1 : m_X2_readOrder_r z g = coC_r y g) (e2 : m_X2_readOrder_z z g = coC_z y g) : lp_ca g (r + 1) z u n = caS g r y u n := by
  rw [lp_ca, caS, e1, e2]
theorem ca_no {g z t : Nat → Int32} {L a r n : Nat} {u : CS} (hg : AG2 g t L) (h : PC z L a) (ha : 0 < a) (hn : ¬ H t L a (nI 59)) : lp_ca g r z u n = (z, u, n) := by
  cases r with
  | zero => rfl
  | succ r =>
    obtain ⟨e1, e2⟩ := rd_no hg h ha hn
    rw [lp_ca, if_pos e1, e2]
theorem PD_ca (g : Nat → Int32) : ∀ (r : Nat) (z : Nat → Int32) (u : CS) (n : Nat), PD z → PD (lp_ca g r z u n).1 := by
  intro r
  induction r with
  | zero => intro z u n h; exact h
  | succ r ih =>
    intro z u n h
    rw [lp_ca]
    split
    · exact PD_X2_readOrder h
    · split
      · exact PD_X2_readOrder h
      · exact ih _ _ _ (PD_X2_readOrder h)
