/-! All stays well: polls, calls, ticks -/
theorem SR_out {u : CS} {row : List Nat} {p : Nat} (h : SR u row) (hp : p < 3) (hl : row.length ≤ 3) : u (6 + p) 3 = (-1) ↔ p ∉ row := by
  rcases h p hp with ⟨h1, h2⟩ | ⟨i, h1, h2⟩
  · exact ⟨fun _ => h1, fun _ => h2⟩
  · have hi := (List.getElem?_eq_some_iff.mp h1).1
    constructor
    · intro e; rw [h2] at e; exact absurd e (k_neg (by omega) (by decide))
    · intro e; exact absurd (List.mem_of_getElem? h1) e
theorem nu_ok {fo s : Int32} {c : Nat} (h1 : 1 ≤ c) (h2 : c ≤ 32) : ∃ c', nu fo (nI c) s = nI c' ∧ 1 ≤ c' ∧ c' ≤ 32 := by
  unfold nu
  rw [pk_div (by omega) (by decide) (by decide), pk_mul]
  by_cases a : fo = nI 1
  · rw [if_pos a]
    by_cases b : s ≤ nI (2 * c)
    · rw [if_pos b]
      by_cases d : nI c ≤ nI 2 * s
      · rw [if_pos d]; exact ⟨c, rfl, h1, h2⟩
      · rw [if_neg d]
        by_cases e : nI 1 ≤ nI (c / 2)
        · rw [if_pos e]
          rw [nI_leI (by decide) (by omega)] at e
          exact ⟨c / 2, rfl, e, by omega⟩
        · rw [if_neg e]; exact ⟨1, rfl, by decide, by decide⟩
    · rw [if_neg b]
      by_cases e : nI (2 * c) ≤ nI 32
      · rw [if_pos e]
        rw [nI_leI (by omega) (by decide)] at e
        exact ⟨2 * c, rfl, by omega, e⟩
      · rw [if_neg e]; exact ⟨32, rfl, by decide, by decide⟩
  · rw [if_neg a]; exact ⟨c, rfl, h1, h2⟩
theorem PRG_f {q t : Nat} {u : CS} : ∀ p, p < 3 → ∀ i, i ≠ 2 → i ≠ 3 → i ≠ 12 → PRG q u t (6 + p) i = u (6 + p) i := by
  intro p hp i h2 h3 h12
  have hl := leave_q (q := q) (u := u) p hp i h3
  unfold PRG
  split
  · by_cases e : p = q
    · subst e; rw [st2_s, pk_un h3]; exact hl
    · rw [st2_n (by omega)]; exact hl
  · by_cases e : p = q
    · subst e; rw [st2_s, idle_eq, pk_un h12, pk_un h2]; exact hl
    · rw [st2_n (by omega)]; exact hl
theorem cn_of {u u' : CS} (h : u' 0 = u 0) : cn u' = cn u := by show tn (u' 0 3) = tn (u 0 3); rw [h]
theorem WL_PRG {u : CS} {T q t : Nat} {rest : List Nat} (hq : q < 3) (h : WL u T) (hR : SR u (q :: rest)) (hn : (q :: rest).Nodup) (h3 : ∀ x ∈ q :: rest, x < 3) : WL (PRG q u t) T := by
  obtain ⟨hM, hT, hS, hF, hQ, -⟩ := h
  have hl := row_le hn h3
  simp only [List.length_cons] at hl
  have hR2 : SR (leaveG q u) rest := leave_row hq hn h3 hR
  have hnq := (List.nodup_cons.mp hn).1
  have hnr := (List.nodup_cons.mp hn).2
  have h3r : ∀ x ∈ rest, x < 3 := fun x hx => h3 x (List.mem_cons_of_mem _ hx)
  have k0 : PRG q u t 0 = u 0 := PRG_k (by decide)
  have k1 : PRG q u t 1 = u 1 := PRG_k (by decide)
  have k2 : PRG q u t 2 = u 2 := PRG_k (by decide)
  have k3 : PRG q u t 3 = u 3 := PRG_k (by decide)
  have k4 : PRG q u t 4 = u 4 := PRG_k (by decide)
  have k5 : PRG q u t 5 = u 5 := PRG_k (by decide)
  have kc : cn (PRG q u t) = cn u := cn_of k0
  have lq := leave_q (q := q) (u := u) q hq
  have others : ∀ p, p < 3 → p ≠ q → ∀ row', SR (PRG q u t) row' → row'.length ≤ 3 → (∀ x, x ∉ row' → x ≠ q → x ∉ rest) → (∀ i, PRG q u t (6 + p) i = leaveG q u (6 + p) i) → WQ (PRG q u t) p := by
    intro p hp hpq row' hr hl' hx e
    refine WQ_same (hQ p hp) kc k2 k3 k4 k5 (fun i hi _ => by rw [e, leave_q p hp i hi]) (fun z => ?_)
    have z2 := hx p ((SR_out hr hp hl').mp z) hpq
    exact (SR_out hR hp (by simp only [List.length_cons]; omega)).mpr (fun m => by
      rcases List.mem_cons.mp m with m | m
      · exact hpq m
      · exact z2 m)
  by_cases c : leaveG q u 1 1 ≤ nI t
  · have eP : PRG q u t = st2 (leaveG q u) (6 + q) (upd (leaveG q u (6 + q)) 3 (m_X0_rowLength_r (leaveG q u))) := by unfold PRG; rw [if_pos c]
    have hlen := rowLength_eq hR2 hnr h3r
    have hr' : SR (PRG q u t) (rest ++ [q]) := by rw [eP]; exact SR_app hq hR2 hnq (pk_us.trans hlen)
    have hl' : (rest ++ [q]).length ≤ 3 := by rw [List.length_append, List.length_singleton]; omega
    have vq : PRG q u t (6 + q) = upd (leaveG q u (6 + q)) 3 (m_X0_rowLength_r (leaveG q u)) := by rw [eP, st2_s]
    refine ⟨CM_of hM k0 k1, by rw [k0]; exact hT, by unfold WSt; rw [k1]; exact hS, WFr_of hF (Nat.le_refl _) kc k2 k3 k4 k5, fun p hp => ?_, rest ++ [q], hr', ?_, ?_⟩
    · by_cases e : p = q
      · subst e
        refine WQ_same (hQ p hp) kc k2 k3 k4 k5 (fun i hi _ => by rw [vq, pk_un hi]; exact lq i hi) (fun z => ?_)
        rw [vq, pk_us, hlen] at z
        exact absurd z (k_neg (by omega) (by decide))
      · exact others p hp e _ hr' hl' (fun x hx _ m => hx (List.mem_append_left _ m)) (fun i => by rw [eP, st2_n (by omega)])
    · exact List.nodup_append.mpr ⟨hnr, by simp, fun a ha b hb e => by
        rw [List.mem_singleton] at hb
        subst hb; subst e
        exact hnq ha⟩
    · intro x hx
      rcases List.mem_append.mp hx with m | m
      · exact h3r x m
      · rw [List.mem_singleton] at m; rw [m]; exact hq
  · have eP : PRG q u t = st2 (leaveG q u) (6 + q) (m_X3_becomeIdle_q (leaveG q u (6 + q)) (if leaveG q u 1 2 = nI 1 then nI 1 else nI 0)) := by unfold PRG; rw [if_neg c]
    have vq : PRG q u t (6 + q) = upd (upd (leaveG q u (6 + q)) 2 (nu (leaveG q u 1 2) (leaveG q u (6 + q) 2) (leaveG q u (6 + q) 12))) 12 (nI 0) := by rw [eP, st2_s, idle_eq]
    have hr' : SR (PRG q u t) rest := SR_cong hR2 (fun p hp => by
      by_cases e : p = q
      · subst e; rw [vq]; rfl
      · rw [eP, st2_n (by omega)])
    refine ⟨CM_of hM k0 k1, by rw [k0]; exact hT, by unfold WSt; rw [k1]; exact hS, WFr_of hF (Nat.le_refl _) kc k2 k3 k4 k5, fun p hp => ?_, rest, hr', hnr, h3r⟩
    by_cases e : p = q
    · subst e
      have h' := hQ p hp
      obtain ⟨c0, e0, e1, e2⟩ := h'.2.2.2.2.2.2.2.1
      refine WQ_of h' kc k2 k3 k4 k5 (fun i hi => PRG_f p hp i (by omega) (by omega) (by omega)) ?_ ?_ ?_ ?_
      · rw [PRG_f p hp 4 (by decide) (by decide) (by decide), PRG_f p hp 0 (by decide) (by decide) (by decide)]; exact h'.1
      · rw [vq]
        show ∃ c, nu (leaveG p u 1 2) (leaveG p u (6 + p) 2) (leaveG p u (6 + p) 12) = nI c ∧ 1 ≤ c ∧ c ≤ 32
        rw [lq 2 (by decide), e0]
        exact nu_ok e1 e2
      · rw [vq]; exact ⟨0, rfl, Nat.zero_le _⟩
      · intro _; rw [vq]; rfl
    · exact others p hp e _ hr' (by omega) (fun x hx _ => hx) (fun i => by rw [eP, st2_n (by omega)])
/-- how many frames the queues tell that they gave -/
def tk3 (u : CS) : Int32 := u 6 8 + u 7 8 + u 8 8
theorem tk3_upd {u u' : CS} {q : Nat} {n : Int32} (hq : q < 3) (h : ∀ p, p < 3 → u' (6 + p) 8 = if p = q then u (6 + p) 8 + n else u (6 + p) 8) : tk3 u' = tk3 u + n := by
  have h0 : u' 6 8 = if 0 = q then u 6 8 + n else u 6 8 := h 0 (by decide)
  have h1 : u' 7 8 = if 1 = q then u 7 8 + n else u 7 8 := h 1 (by decide)
  have h2 : u' 8 8 = if 2 = q then u 8 8 + n else u 8 8 := h 2 (by decide)
  unfold tk3
  rw [h0, h1, h2]
  rcases (by omega : q = 0 ∨ q = 1 ∨ q = 2) with rfl | rfl | rfl
  · rw [if_pos rfl, if_neg (by decide), if_neg (by decide)]; ac_rfl
  · rw [if_neg (by decide), if_pos rfl, if_neg (by decide)]; ac_rfl
  · rw [if_neg (by decide), if_neg (by decide), if_pos rfl]; ac_rfl
theorem WL_poll {u : CS} {T : Nat} (h : WL u T) : WL (m_X0_poll_u u) T ∧ ∃ m, m ≤ tn (u 1 1) ∧ m_X0_poll_r u = nI m ∧ tk3 (m_X0_poll_u u) = tk3 u + nI m := by
  obtain ⟨row, hR, hn, h3⟩ := h.2.2.2.2.2
  match row, hR, hn, h3 with
  | [], hR, hn, h3 =>
    obtain ⟨a, b⟩ := poll_no (queueAt_none (i := 0) hR hn h3 (by simp) (by decide))
    rw [a, b]
    exact ⟨h, 0, Nat.zero_le _, rfl, (Int32.add_zero _).symm⟩
  | q :: rest, hR, hn, h3 =>
    have hq : q < 3 := h3 q (by simp)
    have hl := row_le hn h3
    obtain ⟨a, b⟩ := poll_eq hq (queueAt_some (i := 0) hR hn h3 rfl)
    have hin : ¬ u (6 + q) 3 = (-1) := fun e => (SR_out hR hq hl).mp e (by simp)
    obtain ⟨g1, g2, g3⟩ := WL_polls hq (tn (u 1 1)) h hin
    rw [a, b]
    refine ⟨WL_PRG hq g1 (SR_cong hR g2) hn h3, 0 + lp_pollNG q (tn (u 1 1)) u, ?_, rfl, tk3_upd hq (fun p hp => ?_)⟩
    · have := pollN_le (q := q) (tn (u 1 1)) u; omega
    · rw [PRG_f p hp 8 (by decide) (by decide) (by decide), g3 p hp, Nat.zero_add]
theorem WL_enter {u : CS} {T q : Nat} (hq : q < 3) (h : WL u T) (hi : u (6 + q) 3 = (-1)) : WL (enterG q u) T := by
  obtain ⟨hM, hT, hS, hF, hQ, row, hR, hn, h3⟩ := h
  have hl := row_le hn h3
  have hnq := (SR_out hR hq hl).mp hi
  have hlen := rowLength_eq hR hn h3
  have e : ∀ c, c ≠ 6 + q → enterG q u c = u c := fun c hc => st2_n hc
  have vq : enterG q u (6 + q) = upd (upd (upd (u (6 + q)) 3 (m_X0_rowLength_r u)) 7 ((u (6 + q) 7) + (nI 1))) 12 (nI 0) := st2_s
  have kc : cn (enterG q u) = cn u := cn_of (e 0 (by omega))
  have hr' : SR (enterG q u) (row ++ [q]) := SR_app hq hR hnq hlen
  refine ⟨CM_of hM (e 0 (by omega)) (e 1 (by omega)), by rw [e 0 (by omega)]; exact hT, by unfold WSt; rw [e 1 (by omega)]; exact hS, WFr_of hF (Nat.le_refl _) kc (e 2 (by omega)) (e 3 (by omega)) (e 4 (by omega)) (e 5 (by omega)), fun p hp => ?_, row ++ [q], hr', ?_, ?_⟩
  · have h' := hQ p hp
    by_cases c : p = q
    · subst c
      refine WQ_of h' kc (e 2 (by omega)) (e 3 (by omega)) (e 4 (by omega)) (e 5 (by omega)) (fun i hi => ?_) ?_ ?_ ?_ ?_
      · rw [vq, pk_un (by omega), pk_un (by omega), pk_un (by omega)]
      · rw [vq]; exact h'.1
      · rw [vq]; exact h'.2.2.2.2.2.2.2.1
      · rw [vq]; exact ⟨0, rfl, Nat.zero_le _⟩
      · intro _; rw [vq]; rfl
    · exact WQ_same h' kc (e 2 (by omega)) (e 3 (by omega)) (e 4 (by omega)) (e 5 (by omega)) (fun i _ _ => by rw [e (6 + p) (by omega)]) (fun z => by rw [e (6 + p) (by omega)] at z; exact z)
  · exact List.nodup_append.mpr ⟨hn, by simp, fun a ha b hb eab => by
      rw [List.mem_singleton] at hb
      rw [hb] at eab
      exact hnq (eab ▸ ha)⟩
  · intro x hx
    rcases List.mem_append.mp hx with m | m
    · exact h3 x m
    · rw [List.mem_singleton] at m; rw [m]; exact hq
theorem why_idle {u : CS} {Q : Nat → Int32} (h : m_X0_whySilent_r u Q = 0) : Q 3 = (-1) := by
  unfold m_X0_whySilent_r m_X3_isCalled_r at h
  by_cases c : Q 3 = (-1)
  · exact c
  · rw [if_neg c, if_neg (show ¬ nI 1 = 0 by decide +kernel)] at h
    exact absurd h (by decide +kernel)
theorem WL_callG {u : CS} {T q : Nat} (hq : q < 3) (h : WL u T) : WL (callG q u) T := by
  unfold callG
  by_cases c : m_X0_whySilent_r u (u (6 + q)) = 0
  · rw [if_pos c]; exact WL_enter hq h (why_idle c)
  · rw [if_neg c]; exact h
theorem WL_tick1 {u : CS} {T : Nat} (h : WL u T) : WL (tick1 u) (T + 1) := by
  obtain ⟨hM, hT, hS, hF, hQ, row, hR, hn, h3⟩ := h
  have e : ∀ c, c ≠ 0 → tick1 u c = u c := fun c hc => st2_n hc
  have v0 : tick1 u 0 = upd (u 0) 2 (u 0 2 + nI 1) := st2_s
  have kc : cn (tick1 u) = cn u := by show tn (tick1 u 0 3) = tn (u 0 3); rw [v0]; rfl
  refine ⟨CM_st0 hM rfl, ?_, by unfold WSt; rw [e 1 (by decide)]; exact hS, WFr_of hF (by omega) kc (e 2 (by decide)) (e 3 (by decide)) (e 4 (by decide)) (e 5 (by decide)), fun p hp => ?_, row, SR_cong hR (fun p hp => by rw [e _ (by omega)]), hn, h3⟩
  · rw [v0, pk_us, hT, nI_add]
  · exact WQ_same (hQ p hp) kc (e 2 (by decide)) (e 3 (by decide)) (e 4 (by decide)) (e 5 (by decide)) (fun i _ _ => by rw [e _ (by omega)]) (fun z => by rw [e _ (by omega)] at z; exact z)
theorem tick1_c {w : CS} {c : Nat} (h : c ≠ 0) : tick1 w c = w c := st2_n h
theorem tick_1 (u : CS) : m_X0_tick_u u 1 = u 1 := by
  rw [(tick_G u).1, tick1_c (by decide), callG_k (by decide), callG_k (by decide), callG_k (by decide), poll_hd (by decide)]
theorem WL_tick {u : CS} {T : Nat} (h : WL u T) : WL (m_X0_tick_u u) (T + 1) ∧ ∃ m, m ≤ tn (u 1 1) ∧ m_X0_tick_r u = nI m ∧ tk3 (m_X0_tick_u u) = tk3 u + nI m := by
  obtain ⟨a, m, b1, b2, b3⟩ := WL_poll h
  rw [(tick_G u).1, (tick_G u).2]
  refine ⟨WL_tick1 (WL_callG (by decide) (WL_callG (by decide) (WL_callG (by decide) a))), m, b1, b2, ?_⟩
  rw [← b3]
  have e : ∀ p, p < 3 → tick1 (callG 2 (callG 1 (callG 0 (m_X0_poll_u u)))) (6 + p) 8 = m_X0_poll_u u (6 + p) 8 := fun p _ => by
    rw [tick1_c (by omega), callG_8, callG_8, callG_8]
  have e0 : tick1 (callG 2 (callG 1 (callG 0 (m_X0_poll_u u)))) 6 8 = m_X0_poll_u u 6 8 := e 0 (by decide)
  have e1 : tick1 (callG 2 (callG 1 (callG 0 (m_X0_poll_u u)))) 7 8 = m_X0_poll_u u 7 8 := e 1 (by decide)
  have e2 : tick1 (callG 2 (callG 1 (callG 0 (m_X0_poll_u u)))) 8 8 = m_X0_poll_u u 8 8 := e 2 (by decide)
  unfold tk3
  rw [e0, e1, e2]
theorem run_1 : ∀ (n : Nat) (u : CS), lp_run n u 1 = u 1 ∧ cn (lp_run n u) = cn u := by
  intro n
  induction n with
  | zero => intro u; exact ⟨rfl, rfl⟩
  | succ n ih =>
    intro u
    obtain ⟨a, b⟩ := ih (m_X0_tick_u u)
    exact ⟨a.trans (tick_1 u), b.trans (tick_cn u)⟩
theorem WL_run : ∀ (n : Nat) {u : CS} {T : Nat}, WL u T → WL (lp_run n u) (T + n) ∧ ∃ m, m ≤ n * tn (u 1 1) ∧ (∀ t, lp_runR n u t = t + nI m) ∧ tk3 (lp_run n u) = tk3 u + nI m := by
  intro n
  induction n with
  | zero =>
    intro u T h
    exact ⟨h, 0, Nat.zero_le _, fun t => (Int32.add_zero t).symm, (Int32.add_zero _).symm⟩
  | succ n ih =>
    intro u T h
    obtain ⟨a, m, b1, b2, b3⟩ := WL_tick h
    obtain ⟨c, m', d1, d2, d3⟩ := ih a
    rw [tick_1] at d1
    have e : T + 1 + n = T + (n + 1) := by omega
    rw [e] at c
    refine ⟨c, m + m', ?_, fun t => ?_, ?_⟩
    · rw [Nat.succ_mul]; omega
    · rw [lp_runR, d2, b2, Int32.add_assoc, nI_add]
    · rw [lp_run, d3, b3, Int32.add_assoc, nI_add]
theorem run_sn : ∀ (n : Nat) (u : CS), lp_run (n + 1) u = m_X0_tick_u (lp_run n u) ∧ ∀ t, lp_runR (n + 1) u t = lp_runR n u t + m_X0_tick_r (lp_run n u) := by
  intro n
  induction n with
  | zero => intro u; exact ⟨rfl, fun _ => rfl⟩
  | succ n ih =>
    intro u
    obtain ⟨a, b⟩ := ih (m_X0_tick_u u)
    exact ⟨a, fun t => b (t + m_X0_tick_r u)⟩
/-- taken frames stay taken -/
theorem run_k : ∀ (n : Nat) (u : CS), lp_run n u 2 = u 2 ∧ ∀ i, lp_run n u 4 i = u 4 i ∨ lp_run n u 4 i = nI 1 := by
  intro n
  induction n with
  | zero => intro u; exact ⟨rfl, fun _ => Or.inl rfl⟩
  | succ n ih =>
    intro u
    obtain ⟨a, b⟩ := ih (m_X0_tick_u u)
    obtain ⟨c, -, d⟩ := tick_k u
    refine ⟨a.trans c, fun i => ?_⟩
    rcases b i with e | e
    · rcases d i with f | f
      · exact Or.inl (e.trans f)
      · exact Or.inr (e.trans f)
    · exact Or.inr e
theorem nS_mono {u u' : CS} {p : Nat} (h2 : u' 2 = u 2) (h4 : ∀ i, u' 4 i = u 4 i ∨ u' 4 i = nI 1) : ∀ n, nS u p (nI 1) n ≤ nS u' p (nI 1) n ∧ ∀ j, j < n → qof (u 2 j) = nI p → u' 4 j = nI 1 → ¬ u 4 j = nI 1 → nS u p (nI 1) n < nS u' p (nI 1) n := by
  intro n
  induction n with
  | zero => exact ⟨Nat.le_refl _, fun j hj => absurd hj (Nat.not_lt_zero j)⟩
  | succ n ih =>
    obtain ⟨a, b⟩ := ih
    have c : (if FR u p (nI 1) n then 1 else 0) ≤ if FR u' p (nI 1) n then 1 else 0 := by
      by_cases d : FR u p (nI 1) n
      · rw [if_pos d, if_pos]
        · exact Nat.le_refl _
        · refine ⟨?_, by rw [h2]; exact d.2⟩
          rcases h4 n with e | e
          · rw [e]; exact d.1
          · exact e
      · rw [if_neg d]; exact Nat.zero_le _
    rw [nS, nS]
    refine ⟨by omega, fun j hj hq h1 h0 => ?_⟩
    by_cases e : j = n
    · subst e
      rw [if_neg (fun d => h0 d.1), if_pos ⟨h1, by rw [h2]; exact hq⟩]
      omega
    · have := b j (by omega) hq h1 h0
      omega
theorem tk_spec {j : Nat} : ∀ (r i : Nat) (u : CS), lp_tk j r i u = (-6) ∨ ∃ k, k < r ∧ lp_tk j r i u = nI (i + k) ∧ lp_run (k + 1) u 4 j = nI 1 := by
  intro r
  induction r with
  | zero => intro i u; exact Or.inl rfl
  | succ r ih =>
    intro i u
    rw [lp_tk]
    by_cases c : m_X0_tick_u u 4 j = nI 1
    · rw [if_pos c]; exact Or.inr ⟨0, by omega, rfl, c⟩
    · rw [if_neg c]
      rcases ih (i + 1) (m_X0_tick_u u) with e | ⟨k, h1, h2, h3⟩
      · exact Or.inl e
      · exact Or.inr ⟨k + 1, by omega, by rw [h2]; congr 1; omega, h3⟩
