/-! What is counted of a card's frames: how many of a queue are in a state, what they waited, the longest wait -/
def qof (x : Int32) : Int32 := x - x / nI 3 * nI 3
abbrev FR (u : CS) (p : Nat) (s : Int32) (i : Nat) : Prop := u 4 i = s ∧ qof (u 2 i) = nI p
def mx (a b : Int32) : Int32 := if a < b then b else a
theorem mx_toInt (a b : Int32) : (mx a b).toInt = if a.toInt < b.toInt then b.toInt else a.toInt := by
  unfold mx
  by_cases c : a < b
  · rw [if_pos c, if_pos (Int32.lt_iff_toInt_lt.mp c)]
  · rw [if_neg c, if_neg (fun h => c (Int32.lt_iff_toInt_lt.mpr h))]
theorem mx_rc (a b c : Int32) : mx (mx a b) c = mx (mx a c) b := by
  apply Int32.toInt_inj.mp
  rw [mx_toInt, mx_toInt, mx_toInt, mx_toInt]
  generalize a.toInt = x
  generalize b.toInt = y
  generalize c.toInt = z
  repeat' split
  all_goals omega
def nS (u : CS) (p : Nat) (s : Int32) : Nat → Nat
  | 0 => 0
  | n + 1 => nS u p s n + (if FR u p s n then 1 else 0)
def sW (u : CS) (p : Nat) : Nat → Int32
  | 0 => 0
  | n + 1 => sW u p n + (if FR u p (nI 1) n then u 5 n - u 3 n else 0)
def mW (u : CS) (p : Nat) : Nat → Int32
  | 0 => (-6)
  | n + 1 => if FR u p (nI 1) n then mx (mW u p n) (u 5 n - u 3 n) else mW u p n
theorem nS_le (u : CS) (p : Nat) (s : Int32) : ∀ n, nS u p s n ≤ n := by
  intro n
  induction n with
  | zero => exact Nat.le_refl 0
  | succ n ih =>
    rw [nS]
    split <;> omega
theorem nS_cong {u u' : CS} {p : Nat} {s : Int32} : ∀ n, (∀ i, i < n → u' 2 i = u 2 i ∧ u' 4 i = u 4 i) → nS u' p s n = nS u p s n := by
  intro n
  induction n with
  | zero => intro _; rfl
  | succ n ih =>
    intro h
    obtain ⟨h2, h4⟩ := h n (by omega)
    have e : FR u' p s n ↔ FR u p s n := by unfold FR; rw [h2, h4]
    rw [nS, nS, ih (fun i hi => h i (by omega))]
    simp only [e]
theorem sW_cong {u u' : CS} {p : Nat} : ∀ n, (∀ i, i < n → u' 2 i = u 2 i ∧ u' 4 i = u 4 i ∧ u' 3 i = u 3 i ∧ (u 4 i = nI 1 → u' 5 i = u 5 i)) → sW u' p n = sW u p n ∧ mW u' p n = mW u p n := by
  intro n
  induction n with
  | zero => intro _; exact ⟨rfl, rfl⟩
  | succ n ih =>
    intro h
    obtain ⟨h2, h4, h3, h5⟩ := h n (by omega)
    have e : FR u' p (nI 1) n ↔ FR u p (nI 1) n := by unfold FR; rw [h2, h4]
    obtain ⟨a, b⟩ := ih (fun i hi => h i (by omega))
    rw [sW, sW, mW, mW, a, b]
    by_cases c : FR u p (nI 1) n
    · rw [if_pos c, if_pos c, if_pos (e.mpr c), if_pos (e.mpr c), h3, h5 c.1]
      exact ⟨rfl, rfl⟩
    · rw [if_neg c, if_neg c, if_neg (fun d => c (e.mp d)), if_neg (fun d => c (e.mp d))]
      exact ⟨rfl, rfl⟩
/-- one frame has changed its state -/
theorem nS_upd {u u' : CS} {o p : Nat} {y s : Int32} (h2 : u' 2 = u 2) (h4 : u' 4 = upd (u 4) o y) : ∀ m, nS u' p s m + (if o < m ∧ u 4 o = s ∧ qof (u 2 o) = nI p then 1 else 0) = nS u p s m + (if o < m ∧ y = s ∧ qof (u 2 o) = nI p then 1 else 0) := by
  intro m
  induction m with
  | zero =>
    rw [if_neg (fun h => Nat.not_lt_zero _ h.1), if_neg (fun h => Nat.not_lt_zero _ h.1)]
    rfl
  | succ m ih =>
    rw [nS, nS]
    unfold FR
    rw [h2, h4]
    by_cases e : m = o
    · subst e
      rw [if_neg (fun h => Nat.lt_irrefl _ h.1), if_neg (fun h => Nat.lt_irrefl _ h.1), Nat.add_zero, Nat.add_zero] at ih
      have t : m < m + 1 := Nat.lt_succ_self m
      rw [pk_us, ih]
      simp only [t, true_and]
      exact Nat.add_right_comm _ _ _
    · have t : o < m + 1 ↔ o < m := by omega
      rw [pk_un e]
      simp only [t]
      rw [Nat.add_right_comm, ih, Nat.add_right_comm]
theorem sW_upd {u u' : CS} {o p : Nat} {w : Int32} (h2 : u' 2 = u 2) (h4 : u' 4 = upd (u 4) o (nI 1)) (h3 : u' 3 = u 3) (h5 : ∀ i, i ≠ o → u' 5 i = u 5 i) (hw : u' 5 o - u 3 o = w) (h0 : u 4 o = nI 0) : ∀ m, sW u' p m = sW u p m + (if o < m ∧ qof (u 2 o) = nI p then w else 0) ∧ mW u' p m = (if o < m ∧ qof (u 2 o) = nI p then mx (mW u p m) w else mW u p m) := by
  have n01 : ¬ nI 0 = nI 1 := by decide +kernel
  intro m
  induction m with
  | zero =>
    rw [if_neg (fun h => Nat.not_lt_zero _ h.1), if_neg (fun h => Nat.not_lt_zero _ h.1)]
    exact ⟨(Int32.add_zero _).symm, rfl⟩
  | succ m ih =>
    obtain ⟨ih1, ih2⟩ := ih
    rw [sW, sW, mW, mW]
    unfold FR
    rw [h2, h4, h3]
    by_cases e : m = o
    · subst e
      rw [if_neg (fun h => Nat.lt_irrefl _ h.1)] at ih1 ih2
      have t : m < m + 1 := Nat.lt_succ_self m
      have f : ¬ (u 4 m = nI 1 ∧ qof (u 2 m) = nI p) := fun h => n01 (h0.symm.trans h.1)
      rw [pk_us, ih1, ih2, if_neg f, if_neg f, hw]
      simp only [t, true_and, Int32.add_zero]
    · have t : o < m + 1 ↔ o < m := by omega
      rw [pk_un e, h5 m e, ih1, ih2]
      simp only [t]
      by_cases c : o < m ∧ qof (u 2 o) = nI p
      · rw [if_pos c, if_pos c, if_pos c]
        refine ⟨by ac_rfl, ?_⟩
        split
        · exact mx_rc _ _ _
        · rfl
      · rw [if_neg c, if_neg c, if_neg c]
        refine ⟨by rw [Int32.add_zero, Int32.add_zero], rfl⟩
/-- the oldest frame in a ring -/
def OLD (u : CS) (p n : Nat) (x : Int32) : Prop := (x = (-6) ∧ ∀ i, i < n → ¬ FR u p (nI 0) i) ∨ ∃ o, x = nI o ∧ o < n ∧ FR u p (nI 0) o ∧ ∀ i, i < o → ¬ FR u p (nI 0) i
theorem OLD_cong {u u' : CS} {p n : Nat} {x : Int32} (h : OLD u p n x) (hc : ∀ i, i < n → (FR u' p (nI 0) i ↔ FR u p (nI 0) i)) : OLD u' p n x := by
  rcases h with ⟨h1, h2⟩ | ⟨o, h1, h2, h3, h4⟩
  · exact Or.inl ⟨h1, fun i hi e => h2 i hi ((hc i hi).mp e)⟩
  · exact Or.inr ⟨o, h1, h2, (hc o h2).mpr h3, fun i hi e => h4 i hi ((hc i (by omega)).mp e)⟩
theorem srch_spec (how flow : Nat → Int32) (num : Int32) : ∀ (r i : Nat), (lp_srch how flow num r i = (-6) ∧ ∀ k, i ≤ k → k < i + r → ¬ (how k = nI 0 ∧ qof (flow k) = num)) ∨ ∃ o, lp_srch how flow num r i = nI o ∧ i ≤ o ∧ o < i + r ∧ (how o = nI 0 ∧ qof (flow o) = num) ∧ ∀ k, i ≤ k → k < o → ¬ (how k = nI 0 ∧ qof (flow k) = num) := by
  intro r
  induction r with
  | zero => intro i; exact Or.inl ⟨rfl, fun k a b => by omega⟩
  | succ r ih =>
    intro i
    rw [lp_srch]
    by_cases c1 : how i = 0
    · rw [if_pos c1]
      by_cases c2 : flow i - flow i / nI 3 * nI 3 = num
      · rw [if_pos c2]
        exact Or.inr ⟨i, rfl, Nat.le_refl _, by omega, ⟨c1, c2⟩, fun k a b => by omega⟩
      · rw [if_neg c2]
        have hn : ¬ (how i = nI 0 ∧ qof (flow i) = num) := fun h => c2 h.2
        rcases ih (i + 1) with ⟨h1, h2⟩ | ⟨o, h1, h2, h3, h4, h5⟩
        · refine Or.inl ⟨h1, fun k a b => ?_⟩
          by_cases e : k = i
          · rw [e]; exact hn
          · exact h2 k (by omega) (by omega)
        · refine Or.inr ⟨o, h1, by omega, by omega, h4, fun k a b => ?_⟩
          by_cases e : k = i
          · rw [e]; exact hn
          · exact h5 k (by omega) b
    · rw [if_neg c1]
      have hn : ¬ (how i = nI 0 ∧ qof (flow i) = num) := fun h => c1 h.1
      rcases ih (i + 1) with ⟨h1, h2⟩ | ⟨o, h1, h2, h3, h4, h5⟩
      · refine Or.inl ⟨h1, fun k a b => ?_⟩
        by_cases e : k = i
        · rw [e]; exact hn
        · exact h2 k (by omega) (by omega)
      · refine Or.inr ⟨o, h1, by omega, by omega, h4, fun k a b => ?_⟩
        by_cases e : k = i
        · rw [e]; exact hn
        · exact h5 k (by omega) b
theorem qof_nI {v : Nat} (hv : v < 2 ^ 31) : qof (nI v) = nI (v % 3) := pk_rem hv (by decide) (by decide)
theorem nI_3 {a b : Nat} (ha : a < 3) (hb : b < 3) : nI a = nI b ↔ a = b := nI_eq (by omega) (by omega)
/-- every frame is of one queue and in one state -/
theorem nS_all {u : CS} : ∀ n, (∀ i, i < n → (∃ v, v ≤ 99 ∧ u 2 i = nI v) ∧ (u 4 i = nI 0 ∨ u 4 i = nI 1 ∨ u 4 i = nI 2)) → (nS u 0 (nI 0) n + nS u 1 (nI 0) n + nS u 2 (nI 0) n) + (nS u 0 (nI 1) n + nS u 1 (nI 1) n + nS u 2 (nI 1) n) + (nS u 0 (nI 2) n + nS u 1 (nI 2) n + nS u 2 (nI 2) n) = n := by
  intro n
  induction n with
  | zero => intro _; rfl
  | succ n ih =>
    intro h
    have hi := ih (fun i hi => h i (by omega))
    obtain ⟨⟨v, hv, ev⟩, hs⟩ := h n (by omega)
    have key : ∀ s p : Nat, s < 3 → p < 3 → ∀ t q : Nat, t < 3 → q < 3 → u 4 n = nI t → qof (u 2 n) = nI q → (if FR u p (nI s) n then 1 else 0) = if t = s ∧ q = p then 1 else 0 := by
      intro s p hs hp t q ht hq e4 e2
      unfold FR
      rw [e4, e2]
      simp only [nI_3 ht hs, nI_3 hq hp]
    have e2 : qof (u 2 n) = nI (v % 3) := by rw [ev, qof_nI (by omega)]
    obtain ⟨q, eq⟩ : ∃ q, v % 3 = q := ⟨_, rfl⟩
    have hq : q < 3 := by omega
    rw [eq] at e2
    obtain ⟨t, ht, e4⟩ : ∃ t, t < 3 ∧ u 4 n = nI t := by
      rcases hs with e | e | e
      · exact ⟨0, by decide, e⟩
      · exact ⟨1, by decide, e⟩
      · exact ⟨2, by decide, e⟩
    have K : ∀ s p : Nat, s < 3 → p < 3 → nS u p (nI s) (n + 1) = nS u p (nI s) n + (if t = s ∧ q = p then 1 else 0) := by
      intro s p hs hp
      rw [nS, key s p hs hp t q ht hq e4 e2]
    rw [K 0 0 (by decide) (by decide), K 0 1 (by decide) (by decide), K 0 2 (by decide) (by decide), K 1 0 (by decide) (by decide), K 1 1 (by decide) (by decide), K 1 2 (by decide) (by decide), K 2 0 (by decide) (by decide), K 2 1 (by decide) (by decide), K 2 2 (by decide) (by decide)]
    rcases (by omega : t = 0 ∨ t = 1 ∨ t = 2) with rfl | rfl | rfl <;> rcases (by omega : q = 0 ∨ q = 1 ∨ q = 2) with rfl | rfl | rfl <;> simp <;> omega
