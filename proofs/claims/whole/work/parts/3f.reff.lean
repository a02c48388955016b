def TD (td : Nat → Int32) : Prop := ∀ j, j < 3 → td j = nI (tn (td j)) ∧ tn (td j) ≤ 99
theorem TD_u {td : Nat → Int32} {i n : Nat} (h : TD td) (hn : n ≤ 99) : TD (upd td i (nI n)) := by
  intro j hj
  by_cases e : j = i
  · subst e; rw [pk_us, tn_of rfl (by omega)]; exact ⟨rfl, hn⟩
  · rw [pk_un e]; exact h j hj
theorem ish_n {z tx : Nat → Int32} {a : Nat} (h8 : z 8 = nI a) (ha : a < 2 ^ 31) (h : ¬ m_X5_isHere_r z tx (nI 48) (nI 57) = 0) : tx a = nI (tn (tx a)) ∧ 48 ≤ tn (tx a) ∧ tn (tx a) ≤ 57 :=
  in_n (a := 48) (b := 57) (by decide +kernel) (by decide +kernel) (by decide) (ih_in h8 ha h)
theorem TD_readsNumber {z tx td : Nat → Int32} {w : Nat} {dg : Int32} (ht : TD td) (h : PT z) : TD (m_X5_readsNumber_td z tx td w dg) := by
  unfold m_X5_readsNumber_td
  have h2 := h.2.2
  by_cases hc : m_X5_isHere_r z tx (nI 48) (nI 57) = 0
  · rw [if_pos hc]; exact ht
  · rw [if_neg hc]
    obtain ⟨e, l1, l2⟩ := ish_n h.2.1 (by omega) hc
    have e1 : tx (tn (z 8)) - nI 48 = nI (tn (tx (tn (z 8))) - 48) := by rw [e, tn_of rfl (by omega)]; exact pk_sub (by omega)
    have o1 : TD (upd td w (tx (tn (z 8)) - nI 48)) := by rw [e1]; exact TD_u ht (by omega)
    by_cases hd : dg = nI 2
    · rw [if_pos hd]
      by_cases he : tx (tn (z 8)) - nI 48 ≤ 0
      · rw [if_pos he]; exact o1
      · rw [if_neg he]
        by_cases hg : m_X5_isHere_r (upd z 8 (nI (tn (z 8) + 1))) tx (nI 48) (nI 57) = 0
        · rw [if_pos hg]; exact o1
        · rw [if_neg hg]
          obtain ⟨f, k1, k2⟩ := ish_n (z := upd z 8 (nI (tn (z 8) + 1))) (a := tn (z 8) + 1) rfl (by omega) hg
          have e2 : nI 10 * (tx (tn (z 8)) - nI 48) + tx (tn (z 8) + 1) - nI 48 = nI (10 * (tn (tx (tn (z 8))) - 48) + tn (tx (tn (z 8) + 1)) - 48) := by
            rw [e1, f, tn_of rfl (by omega), pk_mul, nI_add]
            exact pk_sub (by omega)
          rw [e2]; exact TD_u ht (by omega)
    · rw [if_neg hd]; exact o1
set_option maxHeartbeats 4000000 in
theorem TD_readsOrder {z tx td : Nat → Int32} (ht : TD td) (h : PT z) : TD (m_X5_readsOrder_td z tx td) := by
  rw [m_X5_readsOrder_td]
  by_cases hc_0 : tn (z 7) ≤ tn (z 8)
  · rw [if_pos hc_0]
    by_cases hc_1 : (m_X5_takesOne_r (upd z 9 (nI 0)) tx (nI 102)) = 0
    · rw [if_pos hc_1]
      by_cases hc_2 : (m_X5_takesOne_r (m_X5_takesOne_z (upd z 9 (nI 0)) tx (nI 102)) tx (nI 116)) = 0
      · rw [if_pos hc_2]
        by_cases hc_3 : (m_X5_takesOne_r (m_X5_takesOne_z (m_X5_takesOne_z (upd z 9 (nI 0)) tx (nI 102)) tx (nI 116)) tx (nI 113)) = 0
        · rw [if_pos hc_3]
          by_cases hc_4 : (m_X5_takesOne_r (m_X5_takesOne_z (m_X5_takesOne_z (m_X5_takesOne_z (upd z 9 (nI 0)) tx (nI 102)) tx (nI 116)) tx (nI 113)) tx (nI 109)) = 0
          · rw [if_pos hc_4]
            exact ht
          · rw [if_neg hc_4]
            by_cases hc_5 : (m_X5_readsNumber_r (m_X5_takesOne_z (m_X5_takesOne_z (m_X5_takesOne_z (m_X5_takesOne_z (upd z 9 (nI 0)) tx (nI 102)) tx (nI 116)) tx (nI 113)) tx (nI 109)) tx (nI 1)) = 0
            · rw [if_pos hc_5]
              exact (TD_readsNumber ht (PT_takesOne (PT_takesOne (PT_takesOne (PT_takesOne (PT_u h (by decide) (by decide)))))))
            · rw [if_neg hc_5]
              exact (TD_readsNumber ht (PT_takesOne (PT_takesOne (PT_takesOne (PT_takesOne (PT_u h (by decide) (by decide)))))))
        · rw [if_neg hc_3]
          by_cases hc_4 : (m_X5_readsNumber_r (m_X5_takesOne_z (m_X5_takesOne_z (m_X5_takesOne_z (upd z 9 (nI 0)) tx (nI 102)) tx (nI 116)) tx (nI 113)) tx (nI 1)) = 0
          · rw [if_pos hc_4]
            exact (TD_readsNumber ht (PT_takesOne (PT_takesOne (PT_takesOne (PT_u h (by decide) (by decide))))))
          · rw [if_neg hc_4]
            by_cases hc_5 : (m_X5_takesOne_r (m_X5_readsNumber_z (m_X5_takesOne_z (m_X5_takesOne_z (m_X5_takesOne_z (upd z 9 (nI 0)) tx (nI 102)) tx (nI 116)) tx (nI 113)) tx (nI 1)) tx (nI 61)) = 0
            · rw [if_pos hc_5]
              exact (TD_readsNumber ht (PT_takesOne (PT_takesOne (PT_takesOne (PT_u h (by decide) (by decide))))))
            · rw [if_neg hc_5]
              by_cases hc_6 : (m_X5_readsNumber_r (m_X5_takesOne_z (m_X5_readsNumber_z (m_X5_takesOne_z (m_X5_takesOne_z (m_X5_takesOne_z (upd z 9 (nI 0)) tx (nI 102)) tx (nI 116)) tx (nI 113)) tx (nI 1)) tx (nI 61)) tx (nI 2)) = 0
              · rw [if_pos hc_6]
                exact (TD_readsNumber (TD_readsNumber ht (PT_takesOne (PT_takesOne (PT_takesOne (PT_u h (by decide) (by decide)))))) (PT_takesOne (PT_readsNumber (PT_takesOne (PT_takesOne (PT_takesOne (PT_u h (by decide) (by decide))))))))
              · rw [if_neg hc_6]
                by_cases hc_7 : (m_X5_takesOne_r (m_X5_readsNumber_z (m_X5_takesOne_z (m_X5_readsNumber_z (m_X5_takesOne_z (m_X5_takesOne_z (m_X5_takesOne_z (upd z 9 (nI 0)) tx (nI 102)) tx (nI 116)) tx (nI 113)) tx (nI 1)) tx (nI 61)) tx (nI 2)) tx (nI 44)) = 0
                · rw [if_pos hc_7]
                  exact (TD_readsNumber (TD_readsNumber ht (PT_takesOne (PT_takesOne (PT_takesOne (PT_u h (by decide) (by decide)))))) (PT_takesOne (PT_readsNumber (PT_takesOne (PT_takesOne (PT_takesOne (PT_u h (by decide) (by decide))))))))
                · rw [if_neg hc_7]
                  by_cases hc_8 : (m_X5_readsNumber_r (m_X5_takesOne_z (m_X5_readsNumber_z (m_X5_takesOne_z (m_X5_readsNumber_z (m_X5_takesOne_z (m_X5_takesOne_z (m_X5_takesOne_z (upd z 9 (nI 0)) tx (nI 102)) tx (nI 116)) tx (nI 113)) tx (nI 1)) tx (nI 61)) tx (nI 2)) tx (nI 44)) tx (nI 2)) = 0
                  · rw [if_pos hc_8]
                    exact (TD_readsNumber (TD_readsNumber (TD_readsNumber ht (PT_takesOne (PT_takesOne (PT_takesOne (PT_u h (by decide) (by decide)))))) (PT_takesOne (PT_readsNumber (PT_takesOne (PT_takesOne (PT_takesOne (PT_u h (by decide) (by decide)))))))) (PT_takesOne (PT_readsNumber (PT_takesOne (PT_readsNumber (PT_takesOne (PT_takesOne (PT_takesOne (PT_u h (by decide) (by decide))))))))))
                  · rw [if_neg hc_8]
                    exact (TD_readsNumber (TD_readsNumber (TD_readsNumber ht (PT_takesOne (PT_takesOne (PT_takesOne (PT_u h (by decide) (by decide)))))) (PT_takesOne (PT_readsNumber (PT_takesOne (PT_takesOne (PT_takesOne (PT_u h (by decide) (by decide)))))))) (PT_takesOne (PT_readsNumber (PT_takesOne (PT_readsNumber (PT_takesOne (PT_takesOne (PT_takesOne (PT_u h (by decide) (by decide))))))))))
      · rw [if_neg hc_2]
        exact (TD_readsNumber ht (PT_takesOne (PT_takesOne (PT_u h (by decide) (by decide)))))
    · rw [if_neg hc_1]
      by_cases hc_2 : (m_X5_readsNumber_r (m_X5_takesOne_z (upd z 9 (nI 0)) tx (nI 102)) tx (nI 2)) = 0
      · rw [if_pos hc_2]
        exact (TD_u (TD_readsNumber ht (PT_takesOne (PT_u h (by decide) (by decide)))) (by decide))
      · rw [if_neg hc_2]
        by_cases hc_3 : (m_X5_takesOne_r (m_X5_readsNumber_z (m_X5_takesOne_z (upd z 9 (nI 0)) tx (nI 102)) tx (nI 2)) tx (nI 42)) = 0
        · rw [if_pos hc_3]
          exact (TD_u (TD_readsNumber ht (PT_takesOne (PT_u h (by decide) (by decide)))) (by decide))
        · rw [if_neg hc_3]
          by_cases hc_4 : (m_X5_readsNumber_r (m_X5_takesOne_z (m_X5_readsNumber_z (m_X5_takesOne_z (upd z 9 (nI 0)) tx (nI 102)) tx (nI 2)) tx (nI 42)) tx (nI 2)) = 0
          · rw [if_pos hc_4]
            exact (TD_readsNumber (TD_u (TD_readsNumber ht (PT_takesOne (PT_u h (by decide) (by decide)))) (by decide)) (PT_takesOne (PT_readsNumber (PT_takesOne (PT_u h (by decide) (by decide))))))
          · rw [if_neg hc_4]
            exact (TD_readsNumber (TD_u (TD_readsNumber ht (PT_takesOne (PT_u h (by decide) (by decide)))) (by decide)) (PT_takesOne (PT_readsNumber (PT_takesOne (PT_u h (by decide) (by decide))))))
  · rw [if_neg hc_0]
    by_cases hc_1 : (m_X5_takesOne_r (upd z 9 (tx (tn (z 8)))) tx (nI 102)) = 0
    · rw [if_pos hc_1]
      by_cases hc_2 : (m_X5_takesOne_r (m_X5_takesOne_z (upd z 9 (tx (tn (z 8)))) tx (nI 102)) tx (nI 116)) = 0
      · rw [if_pos hc_2]
        by_cases hc_3 : (m_X5_takesOne_r (m_X5_takesOne_z (m_X5_takesOne_z (upd z 9 (tx (tn (z 8)))) tx (nI 102)) tx (nI 116)) tx (nI 113)) = 0
        · rw [if_pos hc_3]
          by_cases hc_4 : (m_X5_takesOne_r (m_X5_takesOne_z (m_X5_takesOne_z (m_X5_takesOne_z (upd z 9 (tx (tn (z 8)))) tx (nI 102)) tx (nI 116)) tx (nI 113)) tx (nI 109)) = 0
          · rw [if_pos hc_4]
            exact ht
          · rw [if_neg hc_4]
            by_cases hc_5 : (m_X5_readsNumber_r (m_X5_takesOne_z (m_X5_takesOne_z (m_X5_takesOne_z (m_X5_takesOne_z (upd z 9 (tx (tn (z 8)))) tx (nI 102)) tx (nI 116)) tx (nI 113)) tx (nI 109)) tx (nI 1)) = 0
            · rw [if_pos hc_5]
              exact (TD_readsNumber ht (PT_takesOne (PT_takesOne (PT_takesOne (PT_takesOne (PT_u h (by decide) (by decide)))))))
            · rw [if_neg hc_5]
              exact (TD_readsNumber ht (PT_takesOne (PT_takesOne (PT_takesOne (PT_takesOne (PT_u h (by decide) (by decide)))))))
        · rw [if_neg hc_3]
          by_cases hc_4 : (m_X5_readsNumber_r (m_X5_takesOne_z (m_X5_takesOne_z (m_X5_takesOne_z (upd z 9 (tx (tn (z 8)))) tx (nI 102)) tx (nI 116)) tx (nI 113)) tx (nI 1)) = 0
          · rw [if_pos hc_4]
            exact (TD_readsNumber ht (PT_takesOne (PT_takesOne (PT_takesOne (PT_u h (by decide) (by decide))))))
          · rw [if_neg hc_4]
            by_cases hc_5 : (m_X5_takesOne_r (m_X5_readsNumber_z (m_X5_takesOne_z (m_X5_takesOne_z (m_X5_takesOne_z (upd z 9 (tx (tn (z 8)))) tx (nI 102)) tx (nI 116)) tx (nI 113)) tx (nI 1)) tx (nI 61)) = 0
            · rw [if_pos hc_5]
              exact (TD_readsNumber ht (PT_takesOne (PT_takesOne (PT_takesOne (PT_u h (by decide) (by decide))))))
            · rw [if_neg hc_5]
              by_cases hc_6 : (m_X5_readsNumber_r (m_X5_takesOne_z (m_X5_readsNumber_z (m_X5_takesOne_z (m_X5_takesOne_z (m_X5_takesOne_z (upd z 9 (tx (tn (z 8)))) tx (nI 102)) tx (nI 116)) tx (nI 113)) tx (nI 1)) tx (nI 61)) tx (nI 2)) = 0
              · rw [if_pos hc_6]
                exact (TD_readsNumber (TD_readsNumber ht (PT_takesOne (PT_takesOne (PT_takesOne (PT_u h (by decide) (by decide)))))) (PT_takesOne (PT_readsNumber (PT_takesOne (PT_takesOne (PT_takesOne (PT_u h (by decide) (by decide))))))))
              · rw [if_neg hc_6]
                by_cases hc_7 : (m_X5_takesOne_r (m_X5_readsNumber_z (m_X5_takesOne_z (m_X5_readsNumber_z (m_X5_takesOne_z (m_X5_takesOne_z (m_X5_takesOne_z (upd z 9 (tx (tn (z 8)))) tx (nI 102)) tx (nI 116)) tx (nI 113)) tx (nI 1)) tx (nI 61)) tx (nI 2)) tx (nI 44)) = 0
                · rw [if_pos hc_7]
                  exact (TD_readsNumber (TD_readsNumber ht (PT_takesOne (PT_takesOne (PT_takesOne (PT_u h (by decide) (by decide)))))) (PT_takesOne (PT_readsNumber (PT_takesOne (PT_takesOne (PT_takesOne (PT_u h (by decide) (by decide))))))))
                · rw [if_neg hc_7]
                  by_cases hc_8 : (m_X5_readsNumber_r (m_X5_takesOne_z (m_X5_readsNumber_z (m_X5_takesOne_z (m_X5_readsNumber_z (m_X5_takesOne_z (m_X5_takesOne_z (m_X5_takesOne_z (upd z 9 (tx (tn (z 8)))) tx (nI 102)) tx (nI 116)) tx (nI 113)) tx (nI 1)) tx (nI 61)) tx (nI 2)) tx (nI 44)) tx (nI 2)) = 0
                  · rw [if_pos hc_8]
                    exact (TD_readsNumber (TD_readsNumber (TD_readsNumber ht (PT_takesOne (PT_takesOne (PT_takesOne (PT_u h (by decide) (by decide)))))) (PT_takesOne (PT_readsNumber (PT_takesOne (PT_takesOne (PT_takesOne (PT_u h (by decide) (by decide)))))))) (PT_takesOne (PT_readsNumber (PT_takesOne (PT_readsNumber (PT_takesOne (PT_takesOne (PT_takesOne (PT_u h (by decide) (by decide))))))))))
                  · rw [if_neg hc_8]
                    exact (TD_readsNumber (TD_readsNumber (TD_readsNumber ht (PT_takesOne (PT_takesOne (PT_takesOne (PT_u h (by decide) (by decide)))))) (PT_takesOne (PT_readsNumber (PT_takesOne (PT_takesOne (PT_takesOne (PT_u h (by decide) (by decide)))))))) (PT_takesOne (PT_readsNumber (PT_takesOne (PT_readsNumber (PT_takesOne (PT_takesOne (PT_takesOne (PT_u h (by decide) (by decide))))))))))
      · rw [if_neg hc_2]
        exact (TD_readsNumber ht (PT_takesOne (PT_takesOne (PT_u h (by decide) (by decide)))))
    · rw [if_neg hc_1]
      by_cases hc_2 : (m_X5_readsNumber_r (m_X5_takesOne_z (upd z 9 (tx (tn (z 8)))) tx (nI 102)) tx (nI 2)) = 0
      · rw [if_pos hc_2]
        exact (TD_u (TD_readsNumber ht (PT_takesOne (PT_u h (by decide) (by decide)))) (by decide))
      · rw [if_neg hc_2]
        by_cases hc_3 : (m_X5_takesOne_r (m_X5_readsNumber_z (m_X5_takesOne_z (upd z 9 (tx (tn (z 8)))) tx (nI 102)) tx (nI 2)) tx (nI 42)) = 0
        · rw [if_pos hc_3]
          exact (TD_u (TD_readsNumber ht (PT_takesOne (PT_u h (by decide) (by decide)))) (by decide))
        · rw [if_neg hc_3]
          by_cases hc_4 : (m_X5_readsNumber_r (m_X5_takesOne_z (m_X5_readsNumber_z (m_X5_takesOne_z (upd z 9 (tx (tn (z 8)))) tx (nI 102)) tx (nI 2)) tx (nI 42)) tx (nI 2)) = 0
          · rw [if_pos hc_4]
            exact (TD_readsNumber (TD_u (TD_readsNumber ht (PT_takesOne (PT_u h (by decide) (by decide)))) (by decide)) (PT_takesOne (PT_readsNumber (PT_takesOne (PT_u h (by decide) (by decide))))))
          · rw [if_neg hc_4]
            exact (TD_readsNumber (TD_u (TD_readsNumber ht (PT_takesOne (PT_u h (by decide) (by decide)))) (by decide)) (PT_takesOne (PT_readsNumber (PT_takesOne (PT_u h (by decide) (by decide))))))
def lp_cf (fl : Nat) : Nat → (Nat → Int32) → (Nat → Int32)
  | 0, f => f
  | r + 1, f => if 400 ≤ tn (f 5) then f else lp_cf fl r (m_X5_doCome_f f fl)
def lp_cfN (fl : Nat) : Nat → (Nat → Int32) → Nat
  | 0, _ => 0
  | r + 1, f => if 400 ≤ tn (f 5) then 0 else 1 + lp_cfN fl r (m_X5_doCome_f f fl)
theorem RF_cf (fl : Nat) : ∀ (r : Nat) {f : Nat → Int32}, RF f → RF (lp_cf fl r f) := by
  intro r
  induction r with
  | zero => intro f h; exact h
  | succ r ih =>
    intro f h
    rw [lp_cf]
    by_cases h1 : 400 ≤ tn (f 5)
    · rw [if_pos h1]; exact h
    · rw [if_neg h1]; exact ih (RF_doCome h (by omega))
def m_carest_r (td : Nat → Int32) (n : Nat) : Int32 := if tn (td 1) ≤ n then nI n else (nI n) - (nI 1000)
def m_X5_carries_r (z : Nat → Int32) (f : Nat → Int32) (td : Nat → Int32) : Int32 := if z 9 = nI 102 then m_carest_r td (0 + lp_cfN (tn (td 0)) (tn (td 1)) f) else if z 9 = nI 116 then (if (m_X5_areTicks_r (nI (tn (td 0)))) = 0 then (-1000) else if nI 9999 < (f 4) + (nI (tn (td 0))) then (-1000) else nI 1) else if (m_X5_isQueue_r (nI (tn (td 0)))) = 0 then (-1000) else if z 9 = nI 109 then nI 1 else if (m_X5_areBounds_r (nI (tn (td 1))) (nI (tn (td 2)))) = 0 then (-1000) else nI 1
def m_X5_carries_f (z : Nat → Int32) (f : Nat → Int32) (td : Nat → Int32) : Nat → Int32 := if z 9 = nI 102 then lp_cf (tn (td 0)) (tn (td 1)) f else if z 9 = nI 116 then (if (m_X5_areTicks_r (nI (tn (td 0)))) = 0 then f else if nI 9999 < (f 4) + (nI (tn (td 0))) then f else (m_X5_ticks_f f (tn (td 0)))) else if (m_X5_isQueue_r (nI (tn (td 0)))) = 0 then f else if z 9 = nI 109 then (m_X5_lays_f f (tn (td 0)) 3 ((nI 1) - (m_X5_get_r f (tn (td 0)) 3))) else if (m_X5_areBounds_r (nI (tn (td 1))) (nI (tn (td 2)))) = 0 then f else (m_X5_doBounds_f f (tn (td 0)) (nI (tn (td 1))) (nI (tn (td 2))))
set_option maxHeartbeats 4000000 in
set_option maxRecDepth 100000 in
theorem c_X5_carries (l : Launch) (D : va_G) (k : Nat → ClassId) (a : Nat → Nat) (z : Nat → Int32) (f : Nat → Int32) (kp : Nat → Int32) (hi : Nat → Int32) (sl : Nat → Int32) (sv : Nat → Int32) (tx : Nat → Int32) (td : Nat → Int32)  (hR : RF f) (hT : TD td) : mI l yX5_carries (wsY yX5_carries cX5_carries 3 (some .int)) 7 D k [.ref (a 0)] (refW k a z f kp hi sl sv tx td) (refW k a z (m_X5_carries_f z f td) kp hi sl sv tx td) (m_X5_carries_r z f td) := by
  refine mI_intro rfl (Nat.le_of_ble_eq_true rfl) (Or.inl rfl) ?_
  intro p e s m args below meth c A Q ls X hW hl hQ
  have hx := X.hx
  have hb := X.hb
  have hl : lv_has ls 3 [(0, .ref (a 0))] := hl
  have hq_1 := hR.1.1.2
  have hq_2 := hR.1.2.1.2
  have hq_3 := hR.1.2.2.1.2
  have hq_4 := (hT 0 (by decide)).2
  have hq_5 := (hT 1 (by decide)).2
  have hq_6 := (hT 2 (by decide)).2
  refine lv_aload_n hx hb dX5_carries_0 rfl (lv_at hl 0 rfl) ?_
  refine k_get X hW inG5 rfl 9 (by decide) fl_X5_171 rfl 0 rfl (v := .int (z 9)) rfl dX5_carries_1 ?_
  refine lv_bipush (v := nI 102) hx hb dX5_carries_4 (by decide +kernel) ?_
  refine lv_icmp_ne (tgt := 70) hx hb dX5_carries_6 (by decide) (fun c_7 => ?_) (fun c_7 => ?_)
  · refine lv_aload_n hx hb dX5_carries_70 rfl (lv_at hl 0 rfl) ?_
    refine k_get X hW inG5 rfl 9 (by decide) fl_X5_171 rfl 0 rfl (v := .int (z 9)) rfl dX5_carries_71 ?_
    refine lv_bipush (v := nI 116) hx hb dX5_carries_74 (by decide +kernel) ?_
    refine lv_icmp_ne (tgt := 147) hx hb dX5_carries_76 (by decide) (fun c_8 => ?_) (fun c_8 => ?_)
    · refine lv_aload_n hx hb dX5_carries_147 rfl (lv_at hl 0 rfl) ?_
      refine k_get X hW inG5 rfl 10 (by decide) fl_X5_28 rfl 0 rfl (v := .ref (a 7)) rfl dX5_carries_148 ?_
      refine lv_iconst (v := nI 0) hx hb dX5_carries_151 (by decide +kernel) ?_
      refine k_iald X hW 7 rfl (j := 0) (v := td 0) rfl (by decide) (by decide) rfl dX5_carries_152 ?_
      refine k_top (y := nI (tn (td 0))) ((hT 0 (by decide)).1) ?_
      obtain ⟨z_9, hz_9⟩ : ∃ zq, m_X5_isQueue_r (nI (tn (td 0))) = zq := ⟨_, rfl⟩
      have hM_10 := (c_X5_isQueue l D k (nI (tn (td 0))))
      rw [hz_9] at hM_10
      refine kSi (As := [.int (nI (tn (td 0)))]) (rest := []) X hW hM_10 yw_X5_isQueue lk_X5_106 ⟨Nat.le_of_ble_eq_true rfl, Nat.le_of_ble_eq_true rfl⟩ rfl hl.1 rfl (Nat.le_of_ble_eq_true rfl) ⟨Nat.zero_le _, Nat.zero_le _⟩ dX5_carries_153 (fun H locs hW => ?_)
      refine lv_if_ne (tgt := 163) hx hb dX5_carries_156 (by decide) (fun c_11 => ?_) (fun c_11 => ?_)
      · obtain ⟨hs_12, ht_12⟩ := rq3 (x := nI (tn (td 0))) (by rw [hz_9]; exact c_11)
        rw [tn_of rfl (by omega)] at ht_12
        refine lv_aload_n hx hb dX5_carries_163 rfl (lv_at hl 0 rfl) ?_
        refine k_get X hW inG5 rfl 9 (by decide) fl_X5_171 rfl 0 rfl (v := .int (z 9)) rfl dX5_carries_164 ?_
        refine lv_bipush (v := nI 109) hx hb dX5_carries_167 (by decide +kernel) ?_
        refine lv_icmp_ne (tgt := 198) hx hb dX5_carries_169 (by decide) (fun c_13 => ?_) (fun c_13 => ?_)
        · refine lv_aload_n hx hb dX5_carries_198 rfl (lv_at hl 0 rfl) ?_
          refine k_get X hW inG5 rfl 10 (by decide) fl_X5_28 rfl 0 rfl (v := .ref (a 7)) rfl dX5_carries_199 ?_
          refine lv_iconst (v := nI 1) hx hb dX5_carries_202 (by decide +kernel) ?_
          refine k_iald X hW 7 rfl (j := 1) (v := td 1) rfl (by decide) (by decide) rfl dX5_carries_203 ?_
          refine k_top (y := nI (tn (td 1))) ((hT 1 (by decide)).1) ?_
          refine lv_aload_n hx hb dX5_carries_204 rfl (lv_at hl 0 rfl) ?_
          refine k_get X hW inG5 rfl 10 (by decide) fl_X5_28 rfl 0 rfl (v := .ref (a 7)) rfl dX5_carries_205 ?_
          refine lv_iconst (v := nI 2) hx hb dX5_carries_208 (by decide +kernel) ?_
          refine k_iald X hW 7 rfl (j := 2) (v := td 2) rfl (by decide) (by decide) rfl dX5_carries_209 ?_
          refine k_top (y := nI (tn (td 2))) ((hT 2 (by decide)).1) ?_
          obtain ⟨z_14, hz_14⟩ : ∃ zq, m_X5_areBounds_r (nI (tn (td 1))) (nI (tn (td 2))) = zq := ⟨_, rfl⟩
          have hM_15 := (c_X5_areBounds l D k (nI (tn (td 1))) (nI (tn (td 2))))
          rw [hz_14] at hM_15
          refine kSi (As := [.int (nI (tn (td 1))), .int (nI (tn (td 2)))]) (rest := []) X hW hM_15 yw_X5_areBounds lk_X5_110 ⟨Nat.le_of_ble_eq_true rfl, Nat.le_of_ble_eq_true rfl⟩ rfl hl.1 rfl (Nat.le_of_ble_eq_true rfl) ⟨Nat.zero_le _, Nat.zero_le _⟩ dX5_carries_210 (fun H locs hW => ?_)
          refine lv_istore_n (lv' := [(1, .int z_14), (0, .ref (a 0))]) hx hb dX5_carries_213 rfl hl (by decide) rfl (fun ls hl => ?_)
          refine lv_iload_n hx hb dX5_carries_214 rfl (lv_at hl 0 rfl) ?_
          refine lv_if_eq (tgt := 243) hx hb dX5_carries_215 (by decide) (fun c_16 => ?_) (fun c_16 => ?_)
          · refine lv_iconst (v := nI 0) hx hb dX5_carries_243 (by decide +kernel) ?_
            refine lv_istore_n (lv' := [(2, .int (nI 0)), (1, .int z_14), (0, .ref (a 0))]) hx hb dX5_carries_244 rfl hl (by decide) rfl (fun ls hl => ?_)
            refine lv_iload_n hx hb dX5_carries_245 rfl (lv_at hl 1 rfl) ?_
            refine lv_if_eq (tgt := 253) hx hb dX5_carries_246 (by decide) (fun c_17 => ?_) (fun c_17 => ?_)
            · refine lv_sipush (v := (-1000)) hx hb dX5_carries_253 (by decide +kernel) ?_
              exact hQ _ _ _ _ _ _ hW dX5_carries_256 (by subst hz_14; subst hz_9; rw [m_X5_carries_r, if_neg c_7, if_neg c_8, if_neg c_11, if_neg c_13, if_pos c_16]) (by subst hz_14; subst hz_9; rw [m_X5_carries_f, if_neg c_7, if_neg c_8, if_neg c_11, if_neg c_13, if_pos c_16])
            · exact absurd c_16 c_17
          · refine lv_aload_n hx hb dX5_carries_218 rfl (lv_at hl 1 rfl) ?_
            refine lv_aload_n hx hb dX5_carries_219 rfl (lv_at hl 1 rfl) ?_
            refine k_get X hW inG5 rfl 10 (by decide) fl_X5_28 rfl 0 rfl (v := .ref (a 7)) rfl dX5_carries_220 ?_
            refine lv_iconst (v := nI 0) hx hb dX5_carries_223 (by decide +kernel) ?_
            refine k_iald X hW 7 rfl (j := 0) (v := td 0) rfl (by decide) (by decide) rfl dX5_carries_224 ?_
            refine k_top (y := nI (tn (td 0))) ((hT 0 (by decide)).1) ?_
            refine lv_aload_n hx hb dX5_carries_225 rfl (lv_at hl 1 rfl) ?_
            refine k_get X hW inG5 rfl 10 (by decide) fl_X5_28 rfl 0 rfl (v := .ref (a 7)) rfl dX5_carries_226 ?_
            refine lv_iconst (v := nI 1) hx hb dX5_carries_229 (by decide +kernel) ?_
            refine k_iald X hW 7 rfl (j := 1) (v := td 1) rfl (by decide) (by decide) rfl dX5_carries_230 ?_
            refine k_top (y := nI (tn (td 1))) ((hT 1 (by decide)).1) ?_
            refine lv_aload_n hx hb dX5_carries_231 rfl (lv_at hl 1 rfl) ?_
            refine k_get X hW inG5 rfl 10 (by decide) fl_X5_28 rfl 0 rfl (v := .ref (a 7)) rfl dX5_carries_232 ?_
            refine lv_iconst (v := nI 2) hx hb dX5_carries_235 (by decide +kernel) ?_
            refine k_iald X hW 7 rfl (j := 2) (v := td 2) rfl (by decide) (by decide) rfl dX5_carries_236 ?_
            refine k_top (y := nI (tn (td 2))) ((hT 2 (by decide)).1) ?_
            obtain ⟨z_18, hz_18⟩ : ∃ zq, m_X5_doBounds_f f (tn (td 0)) (nI (tn (td 1))) (nI (tn (td 2))) = zq := ⟨_, rfl⟩
            have hR_z_18 : RF z_18 := by rw [← hz_18]; exact RF_ag hR AG_doBounds
            have hf_z_18 := hR_z_18.1
            have hq_19 := hf_z_18.1.2
            have hq_20 := hf_z_18.2.1.2
            have hq_21 := hf_z_18.2.2.1.2
            obtain ⟨z_22, hz_22⟩ : ∃ zq, m_X5_doBounds_r f (tn (td 0)) = zq := ⟨_, rfl⟩
            have hM_23 := (c_X5_doBounds l D k a z f kp hi sl sv tx td (tn (td 0)) (nI (tn (td 1))) (nI (tn (td 2))) (by omega))
            rw [hz_18, hz_22] at hM_23
            refine kVi (As := [.int (nI (tn (td 0))), .int (nI (tn (td 1))), .int (nI (tn (td 2)))]) (rest := []) X hW hM_23 yw_X5_doBounds lk_X5_113 ⟨Nat.le_of_ble_eq_true rfl, Nat.le_of_ble_eq_true rfl⟩ (wr := []) (List.Perm.refl _) (w' := refW k a z z_18 kp hi sl sv tx td) (List.Perm.refl _) (k_rcv X hW (ci := 5) (q0 := 0) rfl rfl) rfl hl.1 rfl (Nat.le_of_ble_eq_true rfl) ⟨Nat.zero_le _, Nat.zero_le _⟩ dX5_carries_237 (fun H locs hW => ?_)
            refine lv_goto (tgt := 244) hx hb dX5_carries_240 (by decide) ?_
            refine lv_istore_n (lv' := [(2, .int z_22), (1, .int z_14), (0, .ref (a 0))]) hx hb dX5_carries_244 rfl hl (by decide) rfl (fun ls hl => ?_)
            refine lv_iload_n hx hb dX5_carries_245 rfl (lv_at hl 1 rfl) ?_
            refine lv_if_eq (tgt := 253) hx hb dX5_carries_246 (by decide) (fun c_24 => ?_) (fun c_24 => ?_)
            · exact absurd c_24 c_16
            · refine lv_iconst (v := nI 1) hx hb dX5_carries_249 (by decide +kernel) ?_
              refine lv_goto (tgt := 256) hx hb dX5_carries_250 (by decide) ?_
              exact hQ _ _ _ _ _ _ hW dX5_carries_256 (by subst hz_22; subst hz_18; subst hz_14; subst hz_9; rw [m_X5_carries_r, if_neg c_7, if_neg c_8, if_neg c_11, if_neg c_13, if_neg c_16]) (by subst hz_22; subst hz_18; subst hz_14; subst hz_9; rw [m_X5_carries_f, if_neg c_7, if_neg c_8, if_neg c_11, if_neg c_13, if_neg c_16])
        · refine lv_aload_n hx hb dX5_carries_172 rfl (lv_at hl 0 rfl) ?_
          refine lv_aload_n hx hb dX5_carries_173 rfl (lv_at hl 0 rfl) ?_
          refine k_get X hW inG5 rfl 10 (by decide) fl_X5_28 rfl 0 rfl (v := .ref (a 7)) rfl dX5_carries_174 ?_
          refine lv_iconst (v := nI 0) hx hb dX5_carries_177 (by decide +kernel) ?_
          refine k_iald X hW 7 rfl (j := 0) (v := td 0) rfl (by decide) (by decide) rfl dX5_carries_178 ?_
          refine k_top (y := nI (tn (td 0))) ((hT 0 (by decide)).1) ?_
          refine lv_iconst (v := nI 3) hx hb dX5_carries_179 (by decide +kernel) ?_
          refine lv_iconst (v := nI 1) hx hb dX5_carries_180 (by decide +kernel) ?_
          refine lv_aload_n hx hb dX5_carries_181 rfl (lv_at hl 0 rfl) ?_
          refine lv_aload_n hx hb dX5_carries_182 rfl (lv_at hl 0 rfl) ?_
          refine k_get X hW inG5 rfl 10 (by decide) fl_X5_28 rfl 0 rfl (v := .ref (a 7)) rfl dX5_carries_183 ?_
          refine lv_iconst (v := nI 0) hx hb dX5_carries_186 (by decide +kernel) ?_
          refine k_iald X hW 7 rfl (j := 0) (v := td 0) rfl (by decide) (by decide) rfl dX5_carries_187 ?_
          refine k_top (y := nI (tn (td 0))) ((hT 0 (by decide)).1) ?_
          refine lv_iconst (v := nI 3) hx hb dX5_carries_188 (by decide +kernel) ?_
          obtain ⟨z_25, hz_25⟩ : ∃ zq, m_X5_get_r f (tn (td 0)) 3 = zq := ⟨_, rfl⟩
          have hM_26 := (c_X5_get l D k a z f kp hi sl sv tx td (tn (td 0)) 3 (by first | decide | omega) (by first | decide | omega))
          rw [hz_25] at hM_26
          refine kVi (As := [.int (nI (tn (td 0))), .int (nI 3)]) (rest := [.int (nI 1), .int (nI 3), .int (nI (tn (td 0))), .ref (a 0)]) X hW hM_26 yw_X5_get lk_X5_53 ⟨Nat.le_of_ble_eq_true rfl, Nat.le_of_ble_eq_true rfl⟩ (wr := []) (List.Perm.refl _) (w' := refW k a z f kp hi sl sv tx td) (List.Perm.refl _) (k_rcv X hW (ci := 5) (q0 := 0) rfl rfl) rfl hl.1 rfl (Nat.le_of_ble_eq_true rfl) ⟨Nat.zero_le _, Nat.zero_le _⟩ dX5_carries_189 (fun H locs hW => ?_)
          refine lv_isub hx hb dX5_carries_192 ?_
          obtain ⟨z_27, hz_27⟩ : ∃ zq, m_X5_lays_f f (tn (td 0)) 3 ((nI 1) - z_25) = zq := ⟨_, rfl⟩
          have hf_z_27 : WF z_27 := by rw [← hz_27]; exact WF_lays (tn (td 0)) 3 ((nI 1) - z_25) hR.1
          have hq_28 := hf_z_27.1.2
          have hq_29 := hf_z_27.2.1.2
          have hq_30 := hf_z_27.2.2.1.2
          have hM_31 := (c_X5_lays l D k a z f kp hi sl sv tx td (tn (td 0)) 3 ((nI 1) - z_25) (by first | decide | omega) (by first | decide | omega))
          rw [hz_27] at hM_31
          refine kVv (As := [.int (nI (tn (td 0))), .int (nI 3), .int ((nI 1) - z_25)]) (rest := []) X hW hM_31 yw_X5_lays lk_X5_31 ⟨Nat.le_of_ble_eq_true rfl, Nat.le_of_ble_eq_true rfl⟩ (wr := []) (List.Perm.refl _) (w' := refW k a z z_27 kp hi sl sv tx td) (List.Perm.refl _) (k_rcv X hW (ci := 5) (q0 := 0) rfl rfl) rfl hl.1 rfl (Nat.le_of_ble_eq_true rfl) ⟨Nat.zero_le _, Nat.zero_le _⟩ dX5_carries_193 (fun H locs hW => ?_)
          refine lv_iconst (v := nI 1) hx hb dX5_carries_196 (by decide +kernel) ?_
          exact hQ _ _ _ _ _ _ hW dX5_carries_197 (by subst hz_27; subst hz_25; subst hz_9; rw [m_X5_carries_r, if_neg c_7, if_neg c_8, if_neg c_11, if_pos c_13]) (by subst hz_27; subst hz_25; subst hz_9; rw [m_X5_carries_f, if_neg c_7, if_neg c_8, if_neg c_11, if_pos c_13])
      · refine lv_sipush (v := (-1000)) hx hb dX5_carries_159 (by decide +kernel) ?_
        exact hQ _ _ _ _ _ _ hW dX5_carries_162 (by subst hz_9; rw [m_X5_carries_r, if_neg c_7, if_neg c_8, if_pos c_11]) (by subst hz_9; rw [m_X5_carries_f, if_neg c_7, if_neg c_8, if_pos c_11])
    · refine lv_aload_n hx hb dX5_carries_79 rfl (lv_at hl 0 rfl) ?_
      refine k_get X hW inG5 rfl 10 (by decide) fl_X5_28 rfl 0 rfl (v := .ref (a 7)) rfl dX5_carries_80 ?_
      refine lv_iconst (v := nI 0) hx hb dX5_carries_83 (by decide +kernel) ?_
      refine k_iald X hW 7 rfl (j := 0) (v := td 0) rfl (by decide) (by decide) rfl dX5_carries_84 ?_
      refine k_top (y := nI (tn (td 0))) ((hT 0 (by decide)).1) ?_
      obtain ⟨z_32, hz_32⟩ : ∃ zq, m_X5_areTicks_r (nI (tn (td 0))) = zq := ⟨_, rfl⟩
      have hM_33 := (c_X5_areTicks l D k (nI (tn (td 0))))
      rw [hz_32] at hM_33
      refine kSi (As := [.int (nI (tn (td 0)))]) (rest := []) X hW hM_33 yw_X5_areTicks lk_X5_120 ⟨Nat.le_of_ble_eq_true rfl, Nat.le_of_ble_eq_true rfl⟩ rfl hl.1 rfl (Nat.le_of_ble_eq_true rfl) ⟨Nat.zero_le _, Nat.zero_le _⟩ dX5_carries_85 (fun H locs hW => ?_)
      refine lv_if_eq (tgt := 114) hx hb dX5_carries_88 (by decide) (fun c_34 => ?_) (fun c_34 => ?_)
      · refine lv_iconst (v := nI 0) hx hb dX5_carries_114 (by decide +kernel) ?_
        refine lv_istore_n (lv' := [(1, .int (nI 0)), (0, .ref (a 0))]) hx hb dX5_carries_115 rfl hl (by decide) rfl (fun ls hl => ?_)
        refine lv_iload_n hx hb dX5_carries_116 rfl (lv_at hl 0 rfl) ?_
        refine lv_if_eq (tgt := 133) hx hb dX5_carries_117 (by decide) (fun _ => ?_) (fun c => absurd (by decide +kernel) c)
        refine lv_iconst (v := nI 0) hx hb dX5_carries_133 (by decide +kernel) ?_
        refine lv_istore_n (lv' := [(2, .int (nI 0)), (1, .int (nI 0)), (0, .ref (a 0))]) hx hb dX5_carries_134 rfl hl (by decide) rfl (fun ls hl => ?_)
        refine lv_iload_n hx hb dX5_carries_135 rfl (lv_at hl 1 rfl) ?_
        refine lv_if_eq (tgt := 143) hx hb dX5_carries_136 (by decide) (fun _ => ?_) (fun c => absurd (by decide +kernel) c)
        refine lv_sipush (v := (-1000)) hx hb dX5_carries_143 (by decide +kernel) ?_
        exact hQ _ _ _ _ _ _ hW dX5_carries_146 (by subst hz_32; rw [m_X5_carries_r, if_neg c_7, if_pos c_8, if_pos c_34]) (by subst hz_32; rw [m_X5_carries_f, if_neg c_7, if_pos c_8, if_pos c_34])
      · refine lv_aload_n hx hb dX5_carries_91 rfl (lv_at hl 0 rfl) ?_
        refine k_get X hW inG5 rfl 0 (by decide) fl_X5_7 rfl 0 rfl (v := .ref (a 1)) rfl dX5_carries_92 ?_
        refine lv_iconst (v := nI 4) hx hb dX5_carries_95 (by decide +kernel) ?_
        refine k_iald X hW 1 rfl (j := 4) (v := f 4) rfl (by decide) (by decide) rfl dX5_carries_96 ?_
        refine lv_aload_n hx hb dX5_carries_97 rfl (lv_at hl 0 rfl) ?_
        refine k_get X hW inG5 rfl 10 (by decide) fl_X5_28 rfl 0 rfl (v := .ref (a 7)) rfl dX5_carries_98 ?_
        refine lv_iconst (v := nI 0) hx hb dX5_carries_101 (by decide +kernel) ?_
        refine k_iald X hW 7 rfl (j := 0) (v := td 0) rfl (by decide) (by decide) rfl dX5_carries_102 ?_
        refine k_top (y := nI (tn (td 0))) ((hT 0 (by decide)).1) ?_
        refine lv_iadd hx hb dX5_carries_103 ?_
        refine lv_sipush (v := nI 9999) hx hb dX5_carries_104 (by decide +kernel) ?_
        refine lv_icmp_gt (tgt := 114) hx hb dX5_carries_107 (by decide) (fun c_37 => ?_) (fun c_37 => ?_)
        · refine lv_iconst (v := nI 0) hx hb dX5_carries_114 (by decide +kernel) ?_
          refine lv_istore_n (lv' := [(1, .int (nI 0)), (0, .ref (a 0))]) hx hb dX5_carries_115 rfl hl (by decide) rfl (fun ls hl => ?_)
          refine lv_iload_n hx hb dX5_carries_116 rfl (lv_at hl 0 rfl) ?_
          refine lv_if_eq (tgt := 133) hx hb dX5_carries_117 (by decide) (fun _ => ?_) (fun c => absurd (by decide +kernel) c)
          refine lv_iconst (v := nI 0) hx hb dX5_carries_133 (by decide +kernel) ?_
          refine lv_istore_n (lv' := [(2, .int (nI 0)), (1, .int (nI 0)), (0, .ref (a 0))]) hx hb dX5_carries_134 rfl hl (by decide) rfl (fun ls hl => ?_)
          refine lv_iload_n hx hb dX5_carries_135 rfl (lv_at hl 1 rfl) ?_
          refine lv_if_eq (tgt := 143) hx hb dX5_carries_136 (by decide) (fun _ => ?_) (fun c => absurd (by decide +kernel) c)
          refine lv_sipush (v := (-1000)) hx hb dX5_carries_143 (by decide +kernel) ?_
          exact hQ _ _ _ _ _ _ hW dX5_carries_146 (by subst hz_32; rw [m_X5_carries_r, if_neg c_7, if_pos c_8, if_neg c_34, if_pos c_37]) (by subst hz_32; rw [m_X5_carries_f, if_neg c_7, if_pos c_8, if_neg c_34, if_pos c_37])
        · refine lv_iconst (v := nI 1) hx hb dX5_carries_110 (by decide +kernel) ?_
          refine lv_goto (tgt := 115) hx hb dX5_carries_111 (by decide) ?_
          refine lv_istore_n (lv' := [(1, .int (nI 1)), (0, .ref (a 0))]) hx hb dX5_carries_115 rfl hl (by decide) rfl (fun ls hl => ?_)
          refine lv_iload_n hx hb dX5_carries_116 rfl (lv_at hl 0 rfl) ?_
          refine lv_if_eq (tgt := 133) hx hb dX5_carries_117 (by decide) (fun c => absurd c (by decide +kernel)) (fun _ => ?_)
          have hx_120 := tn_lt (td 0)
          refine lv_aload_n hx hb dX5_carries_120 rfl (lv_at hl 1 rfl) ?_
          refine lv_aload_n hx hb dX5_carries_121 rfl (lv_at hl 1 rfl) ?_
          refine k_get X hW inG5 rfl 10 (by decide) fl_X5_28 rfl 0 rfl (v := .ref (a 7)) rfl dX5_carries_122 ?_
          refine lv_iconst (v := nI 0) hx hb dX5_carries_125 (by decide +kernel) ?_
          refine k_iald X hW 7 rfl (j := 0) (v := td 0) rfl (by decide) (by decide) rfl dX5_carries_126 ?_
          refine k_top (y := nI (tn (td 0))) ((hT 0 (by decide)).1) ?_
          obtain ⟨z_41, hz_41⟩ : ∃ zq, m_X5_ticks_f f (tn (td 0)) = zq := ⟨_, rfl⟩
          have hR_z_41 : RF z_41 := by rw [← hz_41]; exact RF_ticks _ hR
          have hf_z_41 := hR_z_41.1
          have hq_42 := hf_z_41.1.2
          have hq_43 := hf_z_41.2.1.2
          have hq_44 := hf_z_41.2.2.1.2
          obtain ⟨z_45, hz_45⟩ : ∃ zq, m_X5_ticks_r f (tn (td 0)) = zq := ⟨_, rfl⟩
          have hM_46 := (c_X5_ticks l D k a z f kp hi sl sv tx td (tn (td 0)) hR (by omega))
          rw [hz_41, hz_45] at hM_46
          refine kVi (As := [.int (nI (tn (td 0)))]) (rest := []) X hW hM_46 yw_X5_ticks lk_X5_123 ⟨Nat.le_of_ble_eq_true rfl, Nat.le_of_ble_eq_true rfl⟩ (wr := []) (List.Perm.refl _) (w' := refW k a z z_41 kp hi sl sv tx td) (List.Perm.refl _) (k_rcv X hW (ci := 5) (q0 := 0) rfl rfl) rfl hl.1 rfl (Nat.le_of_ble_eq_true rfl) ⟨Nat.zero_le _, Nat.zero_le _⟩ dX5_carries_127 (fun H locs hW => ?_)
          refine lv_goto (tgt := 134) hx hb dX5_carries_130 (by decide) ?_
          refine lv_istore_n (lv' := [(2, .int z_45), (1, .int (nI 1)), (0, .ref (a 0))]) hx hb dX5_carries_134 rfl hl (by decide) rfl (fun ls hl => ?_)
          refine lv_iload_n hx hb dX5_carries_135 rfl (lv_at hl 1 rfl) ?_
          refine lv_if_eq (tgt := 143) hx hb dX5_carries_136 (by decide) (fun c => absurd c (by decide +kernel)) (fun _ => ?_)
          refine lv_iconst (v := nI 1) hx hb dX5_carries_139 (by decide +kernel) ?_
          refine lv_goto (tgt := 146) hx hb dX5_carries_140 (by decide) ?_
          exact hQ _ _ _ _ _ _ hW dX5_carries_146 (by subst hz_45; subst hz_41; subst hz_32; rw [m_X5_carries_r, if_neg c_7, if_pos c_8, if_neg c_34, if_neg c_37]) (by subst hz_45; subst hz_41; subst hz_32; rw [m_X5_carries_f, if_neg c_7, if_pos c_8, if_neg c_34, if_neg c_37])
  · refine lv_iconst (v := nI 0) hx hb dX5_carries_9 (by decide +kernel) ?_
    refine lv_istore_n (lv' := [(1, .int (nI 0)), (0, .ref (a 0))]) hx hb dX5_carries_10 rfl hl (by decide) rfl (fun ls hl => ?_)
    have kx : ∀ (f1 : Nat → Int32) (n : Nat) (H : Heap) (locs : List Loc) (ls : Array Slot), RF f1 → n ≤ 99 → m_X5_carries_r z f td = m_carest_r td n → m_X5_carries_f z f td = f1 → KW D A s (refW k a z f1 kp hi sl sv tx td) H locs → lv_has ls 3 [(1, .int (nI n)), (0, .ref (a 0))] → W p l e (rmD 7) s m args below meth c H locs 0 0 Q (F0 m 50 ls []) := by
      intro f1 n H locs ls hR1 hn hr hu hW hl
      refine lv_iload_n hx hb dX5_carries_50 rfl (lv_at hl 0 rfl) ?_
      refine lv_aload_n hx hb dX5_carries_51 rfl (lv_at hl 1 rfl) ?_
      refine k_get X hW inG5 rfl 10 (by decide) fl_X5_28 rfl 0 rfl (v := .ref (a 7)) rfl dX5_carries_52 ?_
      refine lv_iconst (v := nI 1) hx hb dX5_carries_55 (by decide +kernel) ?_
      refine k_iald X hW 7 rfl (j := 1) (v := td 1) rfl (by decide) (by decide) rfl dX5_carries_56 ?_
      refine k_top (y := nI (tn (td 1))) ((hT 1 (by decide)).1) ?_
      refine lv_icmp_ge (tgt := 68) hx hb dX5_carries_57 (by decide) (fun c_48 => ?_) (fun c_48 => ?_)
      · have c_48 : tn (td 1) ≤ n := (nI_leI (a := tn (td 1)) (b := n) (by omega) (by omega)).mp c_48
        refine lv_iload_n hx hb dX5_carries_68 rfl (lv_at hl 0 rfl) ?_
        exact hQ _ _ _ _ _ _ hW dX5_carries_69 (by rw [hr, m_carest_r, if_pos c_48]) (by rw [hu])
      · have c_48 : ¬ (tn (td 1) ≤ n) := fun h => c_48 ((nI_leI (a := tn (td 1)) (b := n) (by omega) (by omega)).mpr h)
        refine lv_iload_n hx hb dX5_carries_60 rfl (lv_at hl 0 rfl) ?_
        refine lv_sipush (v := nI 1000) hx hb dX5_carries_61 (by decide +kernel) ?_
        refine lv_isub hx hb dX5_carries_64 ?_
        refine lv_goto (tgt := 69) hx hb dX5_carries_65 (by decide) ?_
        exact hQ _ _ _ _ _ _ hW dX5_carries_69 (by rw [hr, m_carest_r, if_neg c_48]) (by rw [hu])
    have lp : ∀ (r : Nat) (f' : Nat → Int32) (n : Nat), RF f' → ∀ (H : Heap) (locs : List Loc) (ls : Array Slot), n + r = tn (td 1) → (∀ x y, x = lp_cf (tn (td 0)) r f' → y = n + lp_cfN (tn (td 0)) r f' → m_X5_carries_r z f td = m_carest_r td y ∧ m_X5_carries_f z f td = x) → KW D A s (refW k a z f' kp hi sl sv tx td) H locs → lv_has ls 3 [(1, .int (nI n)), (0, .ref (a 0))] → W p l e (rmD 7) s m args below meth c H locs 0 0 Q (F0 m 11 ls []) := by
      intro r
      induction r with
      | zero =>
        intro f' n hR' H locs ls hir hk hW hl
        have hq_49 := hR'.1.1.2
        have hq_50 := hR'.1.2.1.2
        have hq_51 := hR'.1.2.2.1.2
        refine lv_iload_n hx hb dX5_carries_11 rfl (lv_at hl 0 rfl) ?_
        refine lv_aload_n hx hb dX5_carries_12 rfl (lv_at hl 1 rfl) ?_
        refine k_get X hW inG5 rfl 10 (by decide) fl_X5_28 rfl 0 rfl (v := .ref (a 7)) rfl dX5_carries_13 ?_
        refine lv_iconst (v := nI 1) hx hb dX5_carries_16 (by decide +kernel) ?_
        refine k_iald X hW 7 rfl (j := 1) (v := td 1) rfl (by decide) (by decide) rfl dX5_carries_17 ?_
        refine k_top (y := nI (tn (td 1))) ((hT 1 (by decide)).1) ?_
        refine lv_icmp_ge (tgt := 50) hx hb dX5_carries_18 (by decide) (fun c_52 => ?_) (fun c_52 => ?_)
        · have c_52 : tn (td 1) ≤ n := (nI_leI (a := tn (td 1)) (b := n) (by omega) (by omega)).mp c_52
          obtain ⟨hr, hu⟩ := hk f' n (rfl) (rfl)
          exact kx f' n _ _ _ hR' (by omega) hr hu hW (lv_sub hl [0, 1] rfl)
        · have c_52 : ¬ (tn (td 1) ≤ n) := fun h => c_52 ((nI_leI (a := tn (td 1)) (b := n) (by omega) (by omega)).mpr h)
          omega
      | succ r ih =>
        intro f' n hR' H locs ls hir hk hW hl
        have hq_53 := hR'.1.1.2
        have hq_54 := hR'.1.2.1.2
        have hq_55 := hR'.1.2.2.1.2
        refine lv_iload_n hx hb dX5_carries_11 rfl (lv_at hl 0 rfl) ?_
        refine lv_aload_n hx hb dX5_carries_12 rfl (lv_at hl 1 rfl) ?_
        refine k_get X hW inG5 rfl 10 (by decide) fl_X5_28 rfl 0 rfl (v := .ref (a 7)) rfl dX5_carries_13 ?_
        refine lv_iconst (v := nI 1) hx hb dX5_carries_16 (by decide +kernel) ?_
        refine k_iald X hW 7 rfl (j := 1) (v := td 1) rfl (by decide) (by decide) rfl dX5_carries_17 ?_
        refine k_top (y := nI (tn (td 1))) ((hT 1 (by decide)).1) ?_
        refine lv_icmp_ge (tgt := 50) hx hb dX5_carries_18 (by decide) (fun c_56 => ?_) (fun c_56 => ?_)
        · have c_56 : tn (td 1) ≤ n := (nI_leI (a := tn (td 1)) (b := n) (by omega) (by omega)).mp c_56
          omega
        · have c_56 : ¬ (tn (td 1) ≤ n) := fun h => c_56 ((nI_leI (a := tn (td 1)) (b := n) (by omega) (by omega)).mpr h)
          refine lv_aload_n hx hb dX5_carries_21 rfl (lv_at hl 1 rfl) ?_
          refine k_get X hW inG5 rfl 0 (by decide) fl_X5_7 rfl 0 rfl (v := .ref (a 1)) rfl dX5_carries_22 ?_
          refine lv_iconst (v := nI 5) hx hb dX5_carries_25 (by decide +kernel) ?_
          refine k_iald X hW 1 rfl (j := 5) (v := f' 5) rfl (by decide) (by decide) rfl dX5_carries_26 ?_
          refine k_top (y := nI (tn (f' 5))) (hR'.1.1.1) ?_
          refine lv_sipush (v := nI 400) hx hb dX5_carries_27 (by decide +kernel) ?_
          refine lv_icmp_ge (tgt := 50) hx hb dX5_carries_30 (by decide) (fun c_57 => ?_) (fun c_57 => ?_)
          · have c_57 : 400 ≤ tn (f' 5) := (nI_leI (a := 400) (b := tn (f' 5)) (by omega) (by omega)).mp c_57
            obtain ⟨hr, hu⟩ := hk f' n (by rw [lp_cf, if_pos c_57]) (by rw [lp_cfN, if_pos c_57]; rfl)
            exact kx f' n _ _ _ hR' (by omega) hr hu hW (lv_sub hl [0, 1] rfl)
          · have c_57 : ¬ (400 ≤ tn (f' 5)) := fun h => c_57 ((nI_leI (a := 400) (b := tn (f' 5)) (by omega) (by omega)).mpr h)
            refine lv_aload_n hx hb dX5_carries_33 rfl (lv_at hl 1 rfl) ?_
            refine lv_aload_n hx hb dX5_carries_34 rfl (lv_at hl 1 rfl) ?_
            refine k_get X hW inG5 rfl 10 (by decide) fl_X5_28 rfl 0 rfl (v := .ref (a 7)) rfl dX5_carries_35 ?_
            refine lv_iconst (v := nI 0) hx hb dX5_carries_38 (by decide +kernel) ?_
            refine k_iald X hW 7 rfl (j := 0) (v := td 0) rfl (by decide) (by decide) rfl dX5_carries_39 ?_
            refine k_top (y := nI (tn (td 0))) ((hT 0 (by decide)).1) ?_
            obtain ⟨z_58, hz_58⟩ : ∃ zq, m_X5_doCome_f f' (tn (td 0)) = zq := ⟨_, rfl⟩
            have hR_z_58 : RF z_58 := by rw [← hz_58]; exact RF_doCome hR' (by omega)
            have hf_z_58 := hR_z_58.1
            have hq_59 := hf_z_58.1.2
            have hq_60 := hf_z_58.2.1.2
            have hq_61 := hf_z_58.2.2.1.2
            obtain ⟨z_62, hz_62⟩ : ∃ zq, m_X5_doCome_r f' (tn (td 0)) = zq := ⟨_, rfl⟩
            have hM_63 := (c_X5_doCome l D k a z f' kp hi sl sv tx td (tn (td 0)) hR'.1 (by omega) (by omega))
            rw [hz_58, hz_62] at hM_63
            refine kVi (As := [.int (nI (tn (td 0)))]) (rest := []) X hW hM_63 yw_X5_doCome lk_X5_117 ⟨Nat.le_of_ble_eq_true rfl, Nat.le_of_ble_eq_true rfl⟩ (wr := []) (List.Perm.refl _) (w' := refW k a z z_58 kp hi sl sv tx td) (List.Perm.refl _) (k_rcv X hW (ci := 5) (q0 := 0) rfl rfl) rfl hl.1 rfl (Nat.le_of_ble_eq_true rfl) ⟨Nat.zero_le _, Nat.zero_le _⟩ dX5_carries_40 (fun H locs hW => ?_)
            refine lv_istore_n (lv' := [(2, .int z_62), (1, .int (nI n)), (0, .ref (a 0))]) hx hb dX5_carries_43 rfl hl (by decide) rfl (fun ls hl => ?_)
            refine lv_iinc (v := nI (n + 1)) (lv' := [(1, .int (nI (n + 1))), (2, .int z_62), (0, .ref (a 0))]) hx hb dX5_carries_44 hl (k := 1) rfl (k_inc _) (by decide) rfl (fun ls hl => ?_)
            refine lv_goto (tgt := 11) hx hb dX5_carries_47 (by decide) ?_
            subst hz_62
            subst hz_58
            exact ih _ (n + 1) (RF_doCome hR' (by omega)) _ _ _ (by omega) (fun x y hx hy => hk x y (by rw [hx, lp_cf, if_neg c_57]) (by rw [hy, lp_cfN, if_neg c_57, Nat.add_assoc])) hW (lv_sub hl [0, 2] rfl)
    exact lp (tn (td 1)) f 0 hR _ _ _ (by omega) (fun x y hx hy => by subst hx; subst hy; exact ⟨by rw [m_X5_carries_r, if_pos c_7], by rw [m_X5_carries_f, if_pos c_7]⟩) hW (lv_sub hl [0, 1] rfl)
