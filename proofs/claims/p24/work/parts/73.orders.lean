/-! The texts that the law writes are orders, and carried out they are the changes themselves -/
theorem get_pre {pre r : List Nat} {j : Nat} : (pre ++ r)[pre.length + j]? = r[j]? := by
  rw [List.getElem?_append_right (Nat.le_add_right _ _), Nat.add_sub_cancel_left]
section
variable {g : Nat → Int32} {t pre post : List Nat}
theorem at_in {c : Nat} (et : t = pre ++ (c :: post)) (hg : ∀ i c, t[i]? = some c → g i = nI c) : pre.length < t.length ∧ g pre.length = nI c := by
  subst et
  refine ⟨by simp, hg _ _ ?_⟩
  have := get_pre (pre := pre) (r := c :: post) (j := 0)
  simpa using this
theorem H_in {c a : Nat} (et : t = pre ++ (c :: post)) (hg : ∀ i c, t[i]? = some c → g i = nI c) (ha : a = pre.length) : H g t.length a (nI c) := by
  subst ha
  exact at_in et hg
theorem D_in {j a : Nat} (et : t = pre ++ ((48 + j) :: post)) (hg : ∀ i c, t[i]? = some c → g i = nI c) (hj : j < 10) (ha : a = pre.length) : Dg g t.length a ∧ nI j = g a - nI 48 := by
  subst ha
  obtain ⟨h1, h2⟩ := at_in et hg
  refine ⟨⟨h1, ?_, ?_⟩, ?_⟩
  · rw [h2, nI_ltI (by omega) (by decide)]; omega
  · rw [h2, nI_ltI (by decide) (by omega)]; omega
  · rw [h2, pk_sub (by omega), Nat.add_sub_cancel_left]
theorem num_in {v a e : Nat} (et : t = pre ++ (dg v ++ post)) (hg : ∀ i c, t[i]? = some c → g i = nI c) (hv : v ≤ 99) (hp : ∀ c, post[0]? = some c → c < 48) (ha : a = pre.length) (he : e = pre.length + (dg v).length) : NUM g t.length a (nI v) e := by
  subst ha; subst he
  by_cases c : v < 10
  · have ed : dg v = [48 + v] := by unfold dg; rw [if_pos c]
    rw [ed] at et ⊢
    obtain ⟨d1, d2⟩ := D_in (post := post) et hg c rfl
    refine ⟨d1, Or.inl ⟨Or.inr (fun z => ?_), d2, rfl⟩⟩
    obtain ⟨z1, z2, -⟩ := z
    have hz : ∃ b, post[0]? = some b := by
      cases post with
      | nil => rw [et] at z1; simp at z1
      | cons b r => exact ⟨b, rfl⟩
    obtain ⟨b, hb⟩ := hz
    have e1 : t[pre.length + 1]? = some b := by
      rw [et, get_pre]
      simpa using hb
    rw [hg _ _ e1] at z2
    have hb2 := hp b hb
    exact z2 ((nI_ltI (by omega) (by decide)).mpr hb2)
  · have ed : dg v = [48 + v / 10, 48 + v % 10] := by unfold dg; rw [if_neg c]
    rw [ed] at et ⊢
    obtain ⟨d1, d2⟩ := D_in (j := v / 10) (post := (48 + v % 10) :: post) et hg (by omega) rfl
    obtain ⟨d3, d4⟩ := D_in (j := v % 10) (a := pre.length + 1) (pre := pre ++ [48 + v / 10]) (post := post) (by rw [et]; simp) hg (by omega) (by simp)
    refine ⟨d1, Or.inr ⟨?_, d3, ?_, rfl⟩⟩
    · rw [← d2]
      exact Int32.not_le.mpr ((nI_ltI (a := 0) (by decide) (by omega)).mpr (by omega))
    · rw [← d2, ← d4, pk_mul, nI_add]
      congr 1
      omega
end
theorem OE_m {g : Nat → Int32} {t : List Nat} {j : Nat} (et : t = [109, 48 + j]) (hg : ∀ i c, t[i]? = some c → g i = nI c) (hj : j < 3) : OE g t.length 0 t.length (nI 109) (nI j) 0 0 (nI 1) := by
  have hh := H_in (g := g) (a := 0) (pre := []) (post := [48 + j]) (c := 109) et hg rfl
  obtain ⟨d1, d2⟩ := D_in (g := g) (a := 0 + 1) (pre := [109]) (post := []) (j := j) et hg (by omega) rfl
  refine Or.inr (Or.inr (Or.inr ⟨rfl, hh, d1, d2, ?_, rfl⟩))
  rw [et]
  rfl
theorem OE_t {g : Nat → Int32} {t : List Nat} {n : Nat} (et : t = 116 :: dg n) (hg : ∀ i c, t[i]? = some c → g i = nI c) (hn : n ≤ 99) : OE g t.length 0 t.length (nI 116) (nI n) 0 0 (nI 1) := by
  have hh := H_in (g := g) (a := 0) (pre := []) (post := dg n) (c := 116) et hg rfl
  have hm := num_in (g := g) (a := 0 + 1) (e := t.length) (pre := [116]) (post := []) (v := n) (by rw [et]; simp) hg hn (fun c h => by simp at h) rfl (by rw [et]; simp; omega)
  exact Or.inr (Or.inl ⟨rfl, hh, hm, rfl⟩)
theorem OE_q {g : Nat → Int32} {t : List Nat} {j c w : Nat} (et : t = 113 :: (48 + j) :: 61 :: (dg c ++ (44 :: dg w))) (hg : ∀ i c, t[i]? = some c → g i = nI c) (hj : j < 3) (hc : c ≤ 99) (hw : w ≤ 99) : OE g t.length 0 t.length (nI 113) (nI j) (nI c) (nI w) (nI 1) := by
  have h0 := H_in (g := g) (a := 0) (pre := []) (post := (48 + j) :: 61 :: (dg c ++ (44 :: dg w))) (c := 113) et hg rfl
  obtain ⟨d1, d2⟩ := D_in (g := g) (a := 0 + 1) (pre := [113]) (post := 61 :: (dg c ++ (44 :: dg w))) (j := j) et hg (by omega) rfl
  have h2 := H_in (g := g) (a := 0 + 1 + 1) (pre := [113, 48 + j]) (post := dg c ++ (44 :: dg w)) (c := 61) et hg rfl
  have n1 := num_in (g := g) (a := 0 + 1 + 1 + 1) (e := 3 + (dg c).length) (pre := [113, 48 + j, 61]) (post := 44 :: dg w) (v := c) et hg hc (fun b h => (show 44 = b by simpa using h) ▸ (by decide : 44 < 48)) rfl rfl
  have h3 := H_in (g := g) (a := 3 + (dg c).length) (pre := [113, 48 + j, 61] ++ dg c) (post := dg w) (c := 44) (by rw [et]; simp) hg (by simp; omega)
  have n2 := num_in (g := g) (a := 3 + (dg c).length + 1) (e := t.length) (pre := [113, 48 + j, 61] ++ dg c ++ [44]) (post := []) (v := w) (by rw [et]; simp) hg hw (fun b h => by simp at h) (by simp; omega) (by rw [et]; simp; omega)
  exact Or.inr (Or.inr (Or.inl ⟨rfl, h0, d1, d2, h2, rfl, _, n1, h3, n2⟩))
theorem OE_f {g : Nat → Int32} {t : List Nat} {f n : Nat} (et : t = 102 :: (dg f ++ (42 :: dg n))) (hg : ∀ i c, t[i]? = some c → g i = nI c) (hf : f ≤ 99) (hn : n ≤ 99) : OE g t.length 0 t.length (nI 102) (nI f) 0 0 (nI n) := by
  have h0 := H_in (g := g) (a := 0) (pre := []) (post := dg f ++ (42 :: dg n)) (c := 102) et hg rfl
  have n1 := num_in (g := g) (a := 0 + 1) (e := 1 + (dg f).length) (pre := [102]) (post := 42 :: dg n) (v := f) et hg hf (fun b h => (show 42 = b by simpa using h) ▸ (by decide : 42 < 48)) rfl rfl
  have h3 := H_in (g := g) (a := 1 + (dg f).length) (pre := [102] ++ dg f) (post := dg n) (c := 42) (by rw [et]; simp) hg (by simp; omega)
  have n2 := num_in (g := g) (a := 1 + (dg f).length + 1) (e := t.length) (pre := [102] ++ dg f ++ [42]) (post := []) (v := n) (by rw [et]; simp) hg hn (fun b h => by simp at h) (by simp; omega) (by rw [et]; simp; omega)
  exact Or.inl ⟨rfl, h0, _, n1, Or.inr ⟨h3, n2⟩⟩
/-! what an order does -/
theorem ci_ok {z : Nat → Int32} {u u' : CS} {r : Int32} (hu : m_X4_carryOrder_u u z = u') (hr : m_X4_carryOrder_r u z = r) (h : ¬ r < 0) : (lp_ci z 1 u 0).1 = u' ∧ (lp_ci z 1 u 0).2.1 = 1 := by
  rw [ci_1, hr, hu, if_neg h]
  exact ⟨rfl, rfl⟩
theorem co_m {z : Nat → Int32} {u : CS} {x : Int32} (h4 : z 4 = nI 109) (h5 : z 5 = x) : m_X4_carryOrder_u u z = m_X0_changeMask_u u x ∧ m_X4_carryOrder_r u z = m_X0_changeMask_r u x := by
  rw [m_X4_carryOrder_u, m_X4_carryOrder_r, h4, h5, if_neg (by decide +kernel), if_neg (by decide +kernel), if_neg (by decide +kernel), if_neg (by decide +kernel), if_neg (by decide +kernel), if_neg (by decide +kernel)]
  exact ⟨rfl, rfl⟩
theorem co_t {z : Nat → Int32} {u : CS} {x : Int32} (h4 : z 4 = nI 116) (h5 : z 5 = x) : m_X4_carryOrder_u u z = m_X0_passTicks_u u x ∧ m_X4_carryOrder_r u z = m_X0_passTicks_r u x := by
  rw [m_X4_carryOrder_u, m_X4_carryOrder_r, h4, h5, if_neg (by decide +kernel), if_pos rfl, if_neg (by decide +kernel), if_pos rfl]
  exact ⟨rfl, rfl⟩
theorem co_q {z : Nat → Int32} {u : CS} {x c w : Int32} (h4 : z 4 = nI 113) (h5 : z 5 = x) (h6 : z 6 = c) (h7 : z 7 = w) : m_X4_carryOrder_u u z = m_X0_changeBounds_u u x c w ∧ m_X4_carryOrder_r u z = m_X0_changeBounds_r u x c w := by
  rw [m_X4_carryOrder_u, m_X4_carryOrder_r, h4, h5, h6, h7, if_neg (by decide +kernel), if_neg (by decide +kernel), if_pos rfl, if_neg (by decide +kernel), if_neg (by decide +kernel), if_pos rfl]
  exact ⟨rfl, rfl⟩
theorem co_f {z : Nat → Int32} {u : CS} {x : Int32} (h4 : z 4 = nI 102) (h5 : z 5 = x) : m_X4_carryOrder_u u z = m_X0_receive_u u x ∧ m_X4_carryOrder_r u z = m_X0_receive_r u x := by
  rw [m_X4_carryOrder_u, m_X4_carryOrder_r, h4, h5, if_pos rfl, if_pos rfl]
  exact ⟨rfl, rfl⟩
/-- frames that come one after the other -/
def lp_rc (x : Int32) : Nat → CS → CS
  | 0, u => u
  | n + 1, u => m_X0_receive_u (lp_rc x n u) x
theorem rc_sn (x : Int32) : ∀ (n : Nat) (u : CS), lp_rc x (n + 1) u = lp_rc x n (m_X0_receive_u u x) := by
  intro n
  induction n with
  | zero => intro u; rfl
  | succ n ih =>
    intro u
    rw [lp_rc, ih u, lp_rc]
theorem ci_f {z : Nat → Int32} {f T : Nat} (h4 : z 4 = nI 102) (h5 : z 5 = nI f) (hf : f ≤ 99) : ∀ (n : Nat) {u : CS} (d : Nat), WL u T → cn u + n ≤ 400 → (lp_ci z n u d).1 = lp_rc (nI f) n u ∧ (lp_ci z n u d).2.1 = d + n := by
  intro n
  induction n with
  | zero => intro u d _ _; exact ⟨rfl, rfl⟩
  | succ n ih =>
    intro u d h hn
    obtain ⟨r1, r2, r3, -⟩ := WL_recv h hf (by omega)
    obtain ⟨k1, k2⟩ := co_f (u := u) h4 h5
    obtain ⟨i1, i2⟩ := ih (d + 1) r2 (by omega)
    rw [lp_ci, k1, k2, r1, if_neg (nI_pos (by omega)), i1, i2, rc_sn]
    exact ⟨rfl, by omega⟩
/-- what the law asks of the frames that came: how many are in the ring, how many were dropped -/
theorem rc_all {f T : Nat} (hf : f ≤ 99) : ∀ (n : Nat) {u : CS}, WL u T → cn u + n ≤ 400 → WL (lp_rc (nI f) n u) T ∧ cn (lp_rc (nI f) n u) = cn u + n ∧ lp_rc (nI f) n u 1 = u 1 ∧ rg (lp_rc (nI f) n u) (f % 3) = rg u (f % 3) + min n (tn (u 1 0) - rg u (f % 3)) ∧ dr (lp_rc (nI f) n u) = dr u + (n - (tn (u 1 0) - rg u (f % 3))) := by
  intro n
  induction n with
  | zero =>
    intro u h _
    refine ⟨h, rfl, rfl, ?_, ?_⟩
    · rw [lp_rc]; omega
    · rw [lp_rc]; omega
  | succ n ih =>
    intro u h hn
    obtain ⟨a1, a2, a3, a4, a5⟩ := ih h (by omega)
    obtain ⟨r1, r2, r3, r4, r5⟩ := WL_recv a1 hf (by omega)
    rw [lp_rc]
    rw [a3] at r4 r5
    refine ⟨r2, by omega, r4, ?_⟩
    split at r5
    · obtain ⟨b1, b2⟩ := r5
      omega
    · obtain ⟨b1, b2⟩ := r5
      omega
