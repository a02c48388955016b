def TD (td : Nat → Int32) : Prop := ∀ j, j < 3 → td j = nI (tn (td j)) ∧ tn (td j) ≤ 99
theorem TD_u {td : Nat → Int32} {i n : Nat} (h : TD td) (hn : n ≤ 99) : TD (upd td i (nI n)) := by
  intro j hj
  by_cases e : j = i
  · subst e; rw [pk_us, tn_of rfl (by omega)]; exact ⟨rfl, hn⟩
  · rw [pk_un e]; exact h j hj
theorem ish_n {z tx : Nat → Int32} {a : Nat} (h8 : z 8 = nI a) (ha : a < 2 ^ 31) (h : ¬ m_X5_isHere_r z tx (nI 48) (nI 57) = 0) : tx a = nI (tn (tx a)) ∧ 48 ≤ tn (tx a) ∧ tn (tx a) ≤ 57 :=
  in_n (a := 48) (b := 57) (by decide +kernel) (by decide +kernel) (by decide) (ih_in h8 ha h)
theorem TD_readsNumber {z tx td : Nat → Int32} {w : Nat} {dg : Int32} (ht : TD td) (h : PT z) : TD (m_X5_readsNumber_td z tx td w dg) := by
  unfold m_X5_readsNumber_td
  have h2 := h.2.2
  by_cases hc : m_X5_isHere_r z tx (nI 48) (nI 57) = 0
  · rw [if_pos hc]; exact ht
  · rw [if_neg hc]
    obtain ⟨e, l1, l2⟩ := ish_n h.2.1 (by omega) hc
    have e1 : tx (tn (z 8)) - nI 48 = nI (tn (tx (tn (z 8))) - 48) := by rw [e, tn_of rfl (by omega)]; exact pk_sub (by omega)
    have o1 : TD (upd td w (tx (tn (z 8)) - nI 48)) := by rw [e1]; exact TD_u ht (by omega)
    by_cases hd : dg = nI 2
    · rw [if_pos hd]
      by_cases he : tx (tn (z 8)) - nI 48 ≤ 0
      · rw [if_pos he]; exact o1
      · rw [if_neg he]
        by_cases hg : m_X5_isHere_r (upd z 8 (nI (tn (z 8) + 1))) tx (nI 48) (nI 57) = 0
        · rw [if_pos hg]; exact o1
        · rw [if_neg hg]
          obtain ⟨f, k1, k2⟩ := ish_n (z := upd z 8 (nI (tn (z 8) + 1))) (a := tn (z 8) + 1) rfl (by omega) hg
          have e2 : nI 10 * (tx (tn (z 8)) - nI 48) + tx (tn (z 8) + 1) - nI 48 = nI (10 * (tn (tx (tn (z 8))) - 48) + tn (tx (tn (z 8) + 1)) - 48) := by
            rw [e1, f, tn_of rfl (by omega), pk_mul, nI_add]
            exact pk_sub (by omega)
          rw [e2]; exact TD_u ht (by omega)
    · rw [if_neg hd]; exact o1
set_option maxHeartbeats 4000000 in
theorem TD_readsOrder {z tx td : Nat → Int32} (ht : TD td) (h : PT z) : TD (m_X5_readsOrder_td z tx td) := by
  rw [m_X5_readsOrder_td]
  by_cases hc_0 : tn (z 7) ≤ tn (z 8)
  · rw [if_pos hc_0]
    by_cases hc_1 : (m_X5_takesOne_r (upd z 9 (nI 0)) tx (nI 102)) = 0
    · rw [if_pos hc_1]
      by_cases hc_2 : (m_X5_takesOne_r (m_X5_takesOne_z (upd z 9 (nI 0)) tx (nI 102)) tx (nI 116)) = 0
      · rw [if_pos hc_2]
        by_cases hc_3 : (m_X5_takesOne_r (m_X5_takesOne_z (m_X5_takesOne_z (upd z 9 (nI 0)) tx (nI 102)) tx (nI 116)) tx (nI 113)) = 0
        · rw [if_pos hc_3]
          by_cases hc_4 : (m_X5_takesOne_r (m_X5_takesOne_z (m_X5_takesOne_z (m_X5_takesOne_z (upd z 9 (nI 0)) tx (nI 102)) tx (nI 116)) tx (nI 113)) tx (nI 109)) = 0
          · rw [if_pos hc_4]
            exact ht
          · rw [if_neg hc_4]
            by_cases hc_5 : (m_X5_readsNumber_r (m_X5_takesOne_z (m_X5_takesOne_z (m_X5_takesOne_z (m_X5_takesOne_z (upd z 9 (nI 0)) tx (nI 102)) tx (nI 116)) tx (nI 113)) tx (nI 109)) tx (nI 1)) = 0
            · rw [if_pos hc_5]
              exact (TD_readsNumber ht (PT_takesOne (PT_takesOne (PT_takesOne (PT_takesOne (PT_u h (by decide) (by decide)))))))
            · rw [if_neg hc_5]
              exact (TD_readsNumber ht (PT_takesOne (PT_takesOne (PT_takesOne (PT_takesOne (PT_u h (by decide) (by decide)))))))
        · rw [if_neg hc_3]
          by_cases hc_4 : (m_X5_readsNumber_r (m_X5_takesOne_z (m_X5_takesOne_z (m_X5_takesOne_z (upd z 9 (nI 0)) tx (nI 102)) tx (nI 116)) tx (nI 113)) tx (nI 1)) = 0
          · rw [if_pos hc_4]
            exact (TD_readsNumber ht (PT_takesOne (PT_takesOne (PT_takesOne (PT_u h (by decide) (by decide))))))
          · rw [if_neg hc_4]
            by_cases hc_5 : (m_X5_takesOne_r (m_X5_readsNumber_z (m_X5_takesOne_z (m_X5_takesOne_z (m_X5_takesOne_z (upd z 9 (nI 0)) tx (nI 102)) tx (nI 116)) tx (nI 113)) tx (nI 1)) tx (nI 61)) = 0
            · rw [if_pos hc_5]
              exact (TD_readsNumber ht (PT_takesOne (PT_takesOne (PT_takesOne (PT_u h (by decide) (by decide))))))
            · rw [if_neg hc_5]
              by_cases hc_6 : (m_X5_readsNumber_r (m_X5_takesOne_z (m_X5_readsNumber_z (m_X5_takesOne_z (m_X5_takesOne_z (m_X5_takesOne_z (upd z 9 (nI 0)) tx (nI 102)) tx (nI 116)) tx (nI 113)) tx (nI 1)) tx (nI 61)) tx (nI 2)) = 0
              · rw [if_pos hc_6]
                exact (TD_readsNumber (TD_readsNumber ht (PT_takesOne (PT_takesOne (PT_takesOne (PT_u h (by decide) (by decide)))))) (PT_takesOne (PT_readsNumber (PT_takesOne (PT_takesOne (PT_takesOne (PT_u h (by decide) (by decide))))))))
              · rw [if_neg hc_6]
                by_cases hc_7 : (m_X5_takesOne_r (m_X5_readsNumber_z (m_X5_takesOne_z (m_X5_readsNumber_z (m_X5_takesOne_z (m_X5_takesOne_z (m_X5_takesOne_z (upd z 9 (nI 0)) tx (nI 102)) tx (nI 116)) tx (nI 113)) tx (nI 1)) tx (nI 61)) tx (nI 2)) tx (nI 44)) = 0
                · rw [if_pos hc_7]
                  exact (TD_readsNumber (TD_readsNumber ht (PT_takesOne (PT_takesOne (PT_takesOne (PT_u h (by decide) (by decide)))))) (PT_takesOne (PT_readsNumber (PT_takesOne (PT_takesOne (PT_takesOne (PT_u h (by decide) (by decide))))))))
                · rw [if_neg hc_7]
                  by_cases hc_8 : (m_X5_readsNumber_r (m_X5_takesOne_z (m_X5_readsNumber_z (m_X5_takesOne_z (m_X5_readsNumber_z (m_X5_takesOne_z (m_X5_takesOne_z (m_X5_takesOne_z (upd z 9 (nI 0)) tx (nI 102)) tx (nI 116)) tx (nI 113)) tx (nI 1)) tx (nI 61)) tx (nI 2)) tx (nI 44)) tx (nI 2)) = 0
                  · rw [if_pos hc_8]
                    exact (TD_readsNumber (TD_readsNumber (TD_readsNumber ht (PT_takesOne (PT_takesOne (PT_takesOne (PT_u h (by decide) (by decide)))))) (PT_takesOne (PT_readsNumber (PT_takesOne (PT_takesOne (PT_takesOne (PT_u h (by decide) (by decide)))))))) (PT_takesOne (PT_readsNumber (PT_takesOne (PT_readsNumber (PT_takesOne (PT_takesOne (PT_takesOne (PT_u h (by decide) (by decide))))))))))
                  · rw [if_neg hc_8]
                    exact (TD_readsNumber (TD_readsNumber (TD_readsNumber ht (PT_takesOne (PT_takesOne (PT_takesOne (PT_u h (by decide) (by decide)))))) (PT_takesOne (PT_readsNumber (PT_takesOne (PT_takesOne (PT_takesOne (PT_u h (by decide) (by decide)))))))) (PT_takesOne (PT_readsNumber (PT_takesOne (PT_readsNumber (PT_takesOne (PT_takesOne (PT_takesOne (PT_u h (by decide) (by decide))))))))))
      · rw [if_neg hc_2]
        exact (TD_readsNumber ht (PT_takesOne (PT_takesOne (PT_u h (by decide) (by decide)))))
    · rw [if_neg hc_1]
      by_cases hc_2 : (m_X5_readsNumber_r (m_X5_takesOne_z (upd z 9 (nI 0)) tx (nI 102)) tx (nI 2)) = 0
      · rw [if_pos hc_2]
        exact (TD_u (TD_readsNumber ht (PT_takesOne (PT_u h (by decide) (by decide)))) (by decide))
      · rw [if_neg hc_2]
        by_cases hc_3 : (m_X5_takesOne_r (m_X5_readsNumber_z (m_X5_takesOne_z (upd z 9 (nI 0)) tx (nI 102)) tx (nI 2)) tx (nI 42)) = 0
        · rw [if_pos hc_3]
          exact (TD_u (TD_readsNumber ht (PT_takesOne (PT_u h (by decide) (by decide)))) (by decide))
        · rw [if_neg hc_3]
          by_cases hc_4 : (m_X5_readsNumber_r (m_X5_takesOne_z (m_X5_readsNumber_z (m_X5_takesOne_z (upd z 9 (nI 0)) tx (nI 102)) tx (nI 2)) tx (nI 42)) tx (nI 2)) = 0
          · rw [if_pos hc_4]
            exact (TD_readsNumber (TD_u (TD_readsNumber ht (PT_takesOne (PT_u h (by decide) (by decide)))) (by decide)) (PT_takesOne (PT_readsNumber (PT_takesOne (PT_u h (by decide) (by decide))))))
          · rw [if_neg hc_4]
            exact (TD_readsNumber (TD_u (TD_readsNumber ht (PT_takesOne (PT_u h (by decide) (by decide)))) (by decide)) (PT_takesOne (PT_readsNumber (PT_takesOne (PT_u h (by decide) (by decide))))))
  · rw [if_neg hc_0]
    by_cases hc_1 : (m_X5_takesOne_r (upd z 9 (tx (tn (z 8)))) tx (nI 102)) = 0
    · rw [if_pos hc_1]
      by_cases hc_2 : (m_X5_takesOne_r (m_X5_takesOne_z (upd z 9 (tx (tn (z 8)))) tx (nI 102)) tx (nI 116)) = 0
      · rw [if_pos hc_2]
        by_cases hc_3 : (m_X5_takesOne_r (m_X5_takesOne_z (m_X5_takesOne_z (upd z 9 (tx (tn (z 8)))) tx (nI 102)) tx (nI 116)) tx (nI 113)) = 0
        · rw [if_pos hc_3]
          by_cases hc_4 : (m_X5_takesOne_r (m_X5_takesOne_z (m_X5_takesOne_z (m_X5_takesOne_z (upd z 9 (tx (tn (z 8)))) tx (nI 102)) tx (nI 116)) tx (nI 113)) tx (nI 109)) = 0
          · rw [if_pos hc_4]
            exact ht
          · rw [if_neg hc_4]
            by_cases hc_5 : (m_X5_readsNumber_r (m_X5_takesOne_z (m_X5_takesOne_z (m_X5_takesOne_z (m_X5_takesOne_z (upd z 9 (tx (tn (z 8)))) tx (nI 102)) tx (nI 116)) tx (nI 113)) tx (nI 109)) tx (nI 1)) = 0
            · rw [if_pos hc_5]
              exact (TD_readsNumber ht (PT_takesOne (PT_takesOne (PT_takesOne (PT_takesOne (PT_u h (by decide) (by decide)))))))
            · rw [if_neg hc_5]
              exact (TD_readsNumber ht (PT_takesOne (PT_takesOne (PT_takesOne (PT_takesOne (PT_u h (by decide) (by decide)))))))
        · rw [if_neg hc_3]
          by_cases hc_4 : (m_X5_readsNumber_r (m_X5_takesOne_z (m_X5_takesOne_z (m_X5_takesOne_z (upd z 9 (tx (tn (z 8)))) tx (nI 102)) tx (nI 116)) tx (nI 113)) tx (nI 1)) = 0
          · rw [if_pos hc_4]
            exact (TD_readsNumber ht (PT_takesOne (PT_takesOne (PT_takesOne (PT_u h (by decide) (by decide))))))
          · rw [if_neg hc_4]
            by_cases hc_5 : (m_X5_takesOne_r (m_X5_readsNumber_z (m_X5_takesOne_z (m_X5_takesOne_z (m_X5_takesOne_z (upd z 9 (tx (tn (z 8)))) tx (nI 102)) tx (nI 116)) tx (nI 113)) tx (nI 1)) tx (nI 61)) = 0
            · rw [if_pos hc_5]
              exact (TD_readsNumber ht (PT_takesOne (PT_takesOne (PT_takesOne (PT_u h (by decide) (by decide))))))
            · rw [if_neg hc_5]
              by_cases hc_6 : (m_X5_readsNumber_r (m_X5_takesOne_z (m_X5_readsNumber_z (m_X5_takesOne_z (m_X5_takesOne_z (m_X5_takesOne_z (upd z 9 (tx (tn (z 8)))) tx (nI 102)) tx (nI 116)) tx (nI 113)) tx (nI 1)) tx (nI 61)) tx (nI 2)) = 0
              · rw [if_pos hc_6]
                exact (TD_readsNumber (TD_readsNumber ht (PT_takesOne (PT_takesOne (PT_takesOne (PT_u h (by decide) (by decide)))))) (PT_takesOne (PT_readsNumber (PT_takesOne (PT_takesOne (PT_takesOne (PT_u h (by decide) (by decide))))))))
              · rw [if_neg hc_6]
                by_cases hc_7 : (m_X5_takesOne_r (m_X5_readsNumber_z (m_X5_takesOne_z (m_X5_readsNumber_z (m_X5_takesOne_z (m_X5_takesOne_z (m_X5_takesOne_z (upd z 9 (tx (tn (z 8)))) tx (nI 102)) tx (nI 116)) tx (nI 113)) tx (nI 1)) tx (nI 61)) tx (nI 2)) tx (nI 44)) = 0
                · rw [if_pos hc_7]
                  exact (TD_readsNumber (TD_readsNumber ht (PT_takesOne (PT_takesOne (PT_takesOne (PT_u h (by decide) (by decide)))))) (PT_takesOne (PT_readsNumber (PT_takesOne (PT_takesOne (PT_takesOne (PT_u h (by decide) (by decide))))))))
                · rw [if_neg hc_7]
                  by_cases hc_8 : (m_X5_readsNumber_r (m_X5_takesOne_z (m_X5_readsNumber_z (m_X5_takesOne_z (m_X5_readsNumber_z (m_X5_takesOne_z (m_X5_takesOne_z (m_X5_takesOne_z (upd z 9 (tx (tn (z 8)))) tx (nI 102)) tx (nI 116)) tx (nI 113)) tx (nI 1)) tx (nI 61)) tx (nI 2)) tx (nI 44)) tx (nI 2)) = 0
                  · rw [if_pos hc_8]
                    exact (TD_readsNumber (TD_readsNumber (TD_readsNumber ht (PT_takesOne (PT_takesOne (PT_takesOne (PT_u h (by decide) (by decide)))))) (PT_takesOne (PT_readsNumber (PT_takesOne (PT_takesOne (PT_takesOne (PT_u h (by decide) (by decide)))))))) (PT_takesOne (PT_readsNumber (PT_takesOne (PT_readsNumber (PT_takesOne (PT_takesOne (PT_takesOne (PT_u h (by decide) (by decide))))))))))
                  · rw [if_neg hc_8]
                    exact (TD_readsNumber (TD_readsNumber (TD_readsNumber ht (PT_takesOne (PT_takesOne (PT_takesOne (PT_u h (by decide) (by decide)))))) (PT_takesOne (PT_readsNumber (PT_takesOne (PT_takesOne (PT_takesOne (PT_u h (by decide) (by decide)))))))) (PT_takesOne (PT_readsNumber (PT_takesOne (PT_readsNumber (PT_takesOne (PT_takesOne (PT_takesOne (PT_u h (by decide) (by decide))))))))))
      · rw [if_neg hc_2]
        exact (TD_readsNumber ht (PT_takesOne (PT_takesOne (PT_u h (by decide) (by decide)))))
    · rw [if_neg hc_1]
      by_cases hc_2 : (m_X5_readsNumber_r (m_X5_takesOne_z (upd z 9 (tx (tn (z 8)))) tx (nI 102)) tx (nI 2)) = 0
      · rw [if_pos hc_2]
        exact (TD_u (TD_readsNumber ht (PT_takesOne (PT_u h (by decide) (by decide)))) (by decide))
      · rw [if_neg hc_2]
        by_cases hc_3 : (m_X5_takesOne_r (m_X5_readsNumber_z (m_X5_takesOne_z (upd z 9 (tx (tn (z 8)))) tx (nI 102)) tx (nI 2)) tx (nI 42)) = 0
        · rw [if_pos hc_3]
          exact (TD_u (TD_readsNumber ht (PT_takesOne (PT_u h (by decide) (by decide)))) (by decide))
        · rw [if_neg hc_3]
          by_cases hc_4 : (m_X5_readsNumber_r (m_X5_takesOne_z (m_X5_readsNumber_z (m_X5_takesOne_z (upd z 9 (tx (tn (z 8)))) tx (nI 102)) tx (nI 2)) tx (nI 42)) tx (nI 2)) = 0
          · rw [if_pos hc_4]
            exact (TD_readsNumber (TD_u (TD_readsNumber ht (PT_takesOne (PT_u h (by decide) (by decide)))) (by decide)) (PT_takesOne (PT_readsNumber (PT_takesOne (PT_u h (by decide) (by decide))))))
          · rw [if_neg hc_4]
            exact (TD_readsNumber (TD_u (TD_readsNumber ht (PT_takesOne (PT_u h (by decide) (by decide)))) (by decide)) (PT_takesOne (PT_readsNumber (PT_takesOne (PT_u h (by decide) (by decide))))))
def lp_cf (fl : Nat) : Nat → (Nat → Int32) → (Nat → Int32)
  | 0, f => f
  | r + 1, f => if 400 ≤ tn (f 5) then f else lp_cf fl r (m_X5_doCome_f f fl)
def lp_cfN (fl : Nat) : Nat → (Nat → Int32) → Nat
  | 0, _ => 0
  | r + 1, f => if 400 ≤ tn (f 5) then 0 else 1 + lp_cfN fl r (m_X5_doCome_f f fl)
theorem RF_cf (fl : Nat) : ∀ (r : Nat) {f : Nat → Int32}, RF f → RF (lp_cf fl r f) := by
  intro r
  induction r with
  | zero => intro f h; exact h
  | succ r ih =>
    intro f h
    rw [lp_cf]
    by_cases h1 : 400 ≤ tn (f 5)
    · rw [if_pos h1]; exact h
    · rw [if_neg h1]; exact ih (RF_doCome h (by omega))
