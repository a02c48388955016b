set_option maxHeartbeats 4000000 in
theorem RO_lt {z tx : Nat → Int32} (h : PT z) : ¬ m_X5_readsOrder_r z tx = 0 → tn (z 8) < tn (m_X5_readsOrder_z z tx 8) := by
  rw [m_X5_readsOrder_r, m_X5_readsOrder_z]
  by_cases hc_0 : tn (z 7) ≤ tn (z 8)
  · rw [if_pos hc_0, if_pos hc_0]
    by_cases hc_1 : (m_X5_takesOne_r (upd z 9 (nI 0)) tx (nI 102)) = 0
    · rw [if_pos hc_1, if_pos hc_1]
      by_cases hc_2 : (m_X5_takesOne_r (m_X5_takesOne_z (upd z 9 (nI 0)) tx (nI 102)) tx (nI 116)) = 0
      · rw [if_pos hc_2, if_pos hc_2]
        by_cases hc_3 : (m_X5_takesOne_r (m_X5_takesOne_z (m_X5_takesOne_z (upd z 9 (nI 0)) tx (nI 102)) tx (nI 116)) tx (nI 113)) = 0
        · rw [if_pos hc_3, if_pos hc_3]
          by_cases hc_4 : (m_X5_takesOne_r (m_X5_takesOne_z (m_X5_takesOne_z (m_X5_takesOne_z (upd z 9 (nI 0)) tx (nI 102)) tx (nI 116)) tx (nI 113)) tx (nI 109)) = 0
          · rw [if_pos hc_4, if_pos hc_4]
            exact fun q => absurd rfl q
          · rw [if_neg hc_4, if_neg hc_4]
            by_cases hc_5 : (m_X5_readsNumber_r (m_X5_takesOne_z (m_X5_takesOne_z (m_X5_takesOne_z (m_X5_takesOne_z (upd z 9 (nI 0)) tx (nI 102)) tx (nI 116)) tx (nI 113)) tx (nI 109)) tx (nI 1)) = 0
            · rw [if_pos hc_5, if_pos hc_5]
              exact fun q => absurd rfl q
            · rw [if_neg hc_5, if_neg hc_5]
              intro hq0
              have e0 : ∀ v : Int32, tn (upd z 9 v 8) = tn (z 8) := fun v => rfl
              have s_z_4 := takesOne_at (z := (upd z 9 (nI 0))) (tx := tx) (c1 := (nI 102)) ((PT_u h (by decide) (by decide)))
              have s_z_10 := takesOne_at (z := (m_X5_takesOne_z (upd z 9 (nI 0)) tx (nI 102))) (tx := tx) (c1 := (nI 116)) ((PT_takesOne (PT_u h (by decide) (by decide))))
              have s_z_16 := takesOne_at (z := (m_X5_takesOne_z (m_X5_takesOne_z (upd z 9 (nI 0)) tx (nI 102)) tx (nI 116))) (tx := tx) (c1 := (nI 113)) ((PT_takesOne (PT_takesOne (PT_u h (by decide) (by decide)))))
              have s_z_22 := takesOne_at (z := (m_X5_takesOne_z (m_X5_takesOne_z (m_X5_takesOne_z (upd z 9 (nI 0)) tx (nI 102)) tx (nI 116)) tx (nI 113))) (tx := tx) (c1 := (nI 109)) ((PT_takesOne (PT_takesOne (PT_takesOne (PT_u h (by decide) (by decide))))))
              have t_z_22 := s_z_22.2 hc_4
              have s_z_28 := readsNumber_at (z := (m_X5_takesOne_z (m_X5_takesOne_z (m_X5_takesOne_z (m_X5_takesOne_z (upd z 9 (nI 0)) tx (nI 102)) tx (nI 116)) tx (nI 113)) tx (nI 109))) (tx := tx) (dg := (nI 1)) ((PT_takesOne (PT_takesOne (PT_takesOne (PT_takesOne (PT_u h (by decide) (by decide)))))))
              have e1 := e0 (tx (tn (z 8)))
              have e2 := e0 (nI 0)
              omega
        · rw [if_neg hc_3, if_neg hc_3]
          by_cases hc_4 : (m_X5_readsNumber_r (m_X5_takesOne_z (m_X5_takesOne_z (m_X5_takesOne_z (upd z 9 (nI 0)) tx (nI 102)) tx (nI 116)) tx (nI 113)) tx (nI 1)) = 0
          · rw [if_pos hc_4, if_pos hc_4]
            exact fun q => absurd rfl q
          · rw [if_neg hc_4, if_neg hc_4]
            by_cases hc_5 : (m_X5_takesOne_r (m_X5_readsNumber_z (m_X5_takesOne_z (m_X5_takesOne_z (m_X5_takesOne_z (upd z 9 (nI 0)) tx (nI 102)) tx (nI 116)) tx (nI 113)) tx (nI 1)) tx (nI 61)) = 0
            · rw [if_pos hc_5, if_pos hc_5]
              exact fun q => absurd rfl q
            · rw [if_neg hc_5, if_neg hc_5]
              by_cases hc_6 : (m_X5_readsNumber_r (m_X5_takesOne_z (m_X5_readsNumber_z (m_X5_takesOne_z (m_X5_takesOne_z (m_X5_takesOne_z (upd z 9 (nI 0)) tx (nI 102)) tx (nI 116)) tx (nI 113)) tx (nI 1)) tx (nI 61)) tx (nI 2)) = 0
              · rw [if_pos hc_6, if_pos hc_6]
                exact fun q => absurd rfl q
              · rw [if_neg hc_6, if_neg hc_6]
                by_cases hc_7 : (m_X5_takesOne_r (m_X5_readsNumber_z (m_X5_takesOne_z (m_X5_readsNumber_z (m_X5_takesOne_z (m_X5_takesOne_z (m_X5_takesOne_z (upd z 9 (nI 0)) tx (nI 102)) tx (nI 116)) tx (nI 113)) tx (nI 1)) tx (nI 61)) tx (nI 2)) tx (nI 44)) = 0
                · rw [if_pos hc_7, if_pos hc_7]
                  exact fun q => absurd rfl q
                · rw [if_neg hc_7, if_neg hc_7]
                  by_cases hc_8 : (m_X5_readsNumber_r (m_X5_takesOne_z (m_X5_readsNumber_z (m_X5_takesOne_z (m_X5_readsNumber_z (m_X5_takesOne_z (m_X5_takesOne_z (m_X5_takesOne_z (upd z 9 (nI 0)) tx (nI 102)) tx (nI 116)) tx (nI 113)) tx (nI 1)) tx (nI 61)) tx (nI 2)) tx (nI 44)) tx (nI 2)) = 0
                  · rw [if_pos hc_8, if_pos hc_8]
                    exact fun q => absurd rfl q
                  · rw [if_neg hc_8, if_neg hc_8]
                    intro hq0
                    have e0 : ∀ v : Int32, tn (upd z 9 v 8) = tn (z 8) := fun v => rfl
                    have s_z_4 := takesOne_at (z := (upd z 9 (nI 0))) (tx := tx) (c1 := (nI 102)) ((PT_u h (by decide) (by decide)))
                    have s_z_10 := takesOne_at (z := (m_X5_takesOne_z (upd z 9 (nI 0)) tx (nI 102))) (tx := tx) (c1 := (nI 116)) ((PT_takesOne (PT_u h (by decide) (by decide))))
                    have s_z_16 := takesOne_at (z := (m_X5_takesOne_z (m_X5_takesOne_z (upd z 9 (nI 0)) tx (nI 102)) tx (nI 116))) (tx := tx) (c1 := (nI 113)) ((PT_takesOne (PT_takesOne (PT_u h (by decide) (by decide)))))
                    have t_z_16 := s_z_16.2 hc_3
                    have s_z_35 := readsNumber_at (z := (m_X5_takesOne_z (m_X5_takesOne_z (m_X5_takesOne_z (upd z 9 (nI 0)) tx (nI 102)) tx (nI 116)) tx (nI 113))) (tx := tx) (dg := (nI 1)) ((PT_takesOne (PT_takesOne (PT_takesOne (PT_u h (by decide) (by decide))))))
                    have s_z_42 := takesOne_at (z := (m_X5_readsNumber_z (m_X5_takesOne_z (m_X5_takesOne_z (m_X5_takesOne_z (upd z 9 (nI 0)) tx (nI 102)) tx (nI 116)) tx (nI 113)) tx (nI 1))) (tx := tx) (c1 := (nI 61)) ((PT_readsNumber (PT_takesOne (PT_takesOne (PT_takesOne (PT_u h (by decide) (by decide)))))))
                    have t_z_42 := s_z_42.2 hc_5
                    have s_z_48 := readsNumber_at (z := (m_X5_takesOne_z (m_X5_readsNumber_z (m_X5_takesOne_z (m_X5_takesOne_z (m_X5_takesOne_z (upd z 9 (nI 0)) tx (nI 102)) tx (nI 116)) tx (nI 113)) tx (nI 1)) tx (nI 61))) (tx := tx) (dg := (nI 2)) ((PT_takesOne (PT_readsNumber (PT_takesOne (PT_takesOne (PT_takesOne (PT_u h (by decide) (by decide))))))))
                    have s_z_55 := takesOne_at (z := (m_X5_readsNumber_z (m_X5_takesOne_z (m_X5_readsNumber_z (m_X5_takesOne_z (m_X5_takesOne_z (m_X5_takesOne_z (upd z 9 (nI 0)) tx (nI 102)) tx (nI 116)) tx (nI 113)) tx (nI 1)) tx (nI 61)) tx (nI 2))) (tx := tx) (c1 := (nI 44)) ((PT_readsNumber (PT_takesOne (PT_readsNumber (PT_takesOne (PT_takesOne (PT_takesOne (PT_u h (by decide) (by decide)))))))))
                    have t_z_55 := s_z_55.2 hc_7
                    have s_z_61 := readsNumber_at (z := (m_X5_takesOne_z (m_X5_readsNumber_z (m_X5_takesOne_z (m_X5_readsNumber_z (m_X5_takesOne_z (m_X5_takesOne_z (m_X5_takesOne_z (upd z 9 (nI 0)) tx (nI 102)) tx (nI 116)) tx (nI 113)) tx (nI 1)) tx (nI 61)) tx (nI 2)) tx (nI 44))) (tx := tx) (dg := (nI 2)) ((PT_takesOne (PT_readsNumber (PT_takesOne (PT_readsNumber (PT_takesOne (PT_takesOne (PT_takesOne (PT_u h (by decide) (by decide))))))))))
                    have e1 := e0 (tx (tn (z 8)))
                    have e2 := e0 (nI 0)
                    omega
      · rw [if_neg hc_2, if_neg hc_2]
        intro hq0
        have e0 : ∀ v : Int32, tn (upd z 9 v 8) = tn (z 8) := fun v => rfl
        have s_z_4 := takesOne_at (z := (upd z 9 (nI 0))) (tx := tx) (c1 := (nI 102)) ((PT_u h (by decide) (by decide)))
        have s_z_10 := takesOne_at (z := (m_X5_takesOne_z (upd z 9 (nI 0)) tx (nI 102))) (tx := tx) (c1 := (nI 116)) ((PT_takesOne (PT_u h (by decide) (by decide))))
        have t_z_10 := s_z_10.2 hc_2
        have s_z_68 := readsNumber_at (z := (m_X5_takesOne_z (m_X5_takesOne_z (upd z 9 (nI 0)) tx (nI 102)) tx (nI 116))) (tx := tx) (dg := (nI 2)) ((PT_takesOne (PT_takesOne (PT_u h (by decide) (by decide)))))
        have e1 := e0 (tx (tn (z 8)))
        have e2 := e0 (nI 0)
        omega
    · rw [if_neg hc_1, if_neg hc_1]
      by_cases hc_2 : (m_X5_readsNumber_r (m_X5_takesOne_z (upd z 9 (nI 0)) tx (nI 102)) tx (nI 2)) = 0
      · rw [if_pos hc_2, if_pos hc_2]
        exact fun q => absurd rfl q
      · rw [if_neg hc_2, if_neg hc_2]
        by_cases hc_3 : (m_X5_takesOne_r (m_X5_readsNumber_z (m_X5_takesOne_z (upd z 9 (nI 0)) tx (nI 102)) tx (nI 2)) tx (nI 42)) = 0
        · rw [if_pos hc_3, if_pos hc_3]
          intro hq0
          have e0 : ∀ v : Int32, tn (upd z 9 v 8) = tn (z 8) := fun v => rfl
          have s_z_4 := takesOne_at (z := (upd z 9 (nI 0))) (tx := tx) (c1 := (nI 102)) ((PT_u h (by decide) (by decide)))
          have t_z_4 := s_z_4.2 hc_1
          have s_z_74 := readsNumber_at (z := (m_X5_takesOne_z (upd z 9 (nI 0)) tx (nI 102))) (tx := tx) (dg := (nI 2)) ((PT_takesOne (PT_u h (by decide) (by decide))))
          have s_z_81 := takesOne_at (z := (m_X5_readsNumber_z (m_X5_takesOne_z (upd z 9 (nI 0)) tx (nI 102)) tx (nI 2))) (tx := tx) (c1 := (nI 42)) ((PT_readsNumber (PT_takesOne (PT_u h (by decide) (by decide)))))
          have e1 := e0 (tx (tn (z 8)))
          have e2 := e0 (nI 0)
          omega
        · rw [if_neg hc_3, if_neg hc_3]
          by_cases hc_4 : (m_X5_readsNumber_r (m_X5_takesOne_z (m_X5_readsNumber_z (m_X5_takesOne_z (upd z 9 (nI 0)) tx (nI 102)) tx (nI 2)) tx (nI 42)) tx (nI 2)) = 0
          · rw [if_pos hc_4, if_pos hc_4]
            exact fun q => absurd rfl q
          · rw [if_neg hc_4, if_neg hc_4]
            intro hq0
            have e0 : ∀ v : Int32, tn (upd z 9 v 8) = tn (z 8) := fun v => rfl
            have s_z_4 := takesOne_at (z := (upd z 9 (nI 0))) (tx := tx) (c1 := (nI 102)) ((PT_u h (by decide) (by decide)))
            have t_z_4 := s_z_4.2 hc_1
            have s_z_74 := readsNumber_at (z := (m_X5_takesOne_z (upd z 9 (nI 0)) tx (nI 102))) (tx := tx) (dg := (nI 2)) ((PT_takesOne (PT_u h (by decide) (by decide))))
            have s_z_81 := takesOne_at (z := (m_X5_readsNumber_z (m_X5_takesOne_z (upd z 9 (nI 0)) tx (nI 102)) tx (nI 2))) (tx := tx) (c1 := (nI 42)) ((PT_readsNumber (PT_takesOne (PT_u h (by decide) (by decide)))))
            have t_z_81 := s_z_81.2 hc_3
            have s_z_87 := readsNumber_at (z := (m_X5_takesOne_z (m_X5_readsNumber_z (m_X5_takesOne_z (upd z 9 (nI 0)) tx (nI 102)) tx (nI 2)) tx (nI 42))) (tx := tx) (dg := (nI 2)) ((PT_takesOne (PT_readsNumber (PT_takesOne (PT_u h (by decide) (by decide))))))
            have e1 := e0 (tx (tn (z 8)))
            have e2 := e0 (nI 0)
            omega
  · rw [if_neg hc_0, if_neg hc_0]
    by_cases hc_1 : (m_X5_takesOne_r (upd z 9 (tx (tn (z 8)))) tx (nI 102)) = 0
    · rw [if_pos hc_1, if_pos hc_1]
      by_cases hc_2 : (m_X5_takesOne_r (m_X5_takesOne_z (upd z 9 (tx (tn (z 8)))) tx (nI 102)) tx (nI 116)) = 0
      · rw [if_pos hc_2, if_pos hc_2]
        by_cases hc_3 : (m_X5_takesOne_r (m_X5_takesOne_z (m_X5_takesOne_z (upd z 9 (tx (tn (z 8)))) tx (nI 102)) tx (nI 116)) tx (nI 113)) = 0
        · rw [if_pos hc_3, if_pos hc_3]
          by_cases hc_4 : (m_X5_takesOne_r (m_X5_takesOne_z (m_X5_takesOne_z (m_X5_takesOne_z (upd z 9 (tx (tn (z 8)))) tx (nI 102)) tx (nI 116)) tx (nI 113)) tx (nI 109)) = 0
          · rw [if_pos hc_4, if_pos hc_4]
            exact fun q => absurd rfl q
          · rw [if_neg hc_4, if_neg hc_4]
            by_cases hc_5 : (m_X5_readsNumber_r (m_X5_takesOne_z (m_X5_takesOne_z (m_X5_takesOne_z (m_X5_takesOne_z (upd z 9 (tx (tn (z 8)))) tx (nI 102)) tx (nI 116)) tx (nI 113)) tx (nI 109)) tx (nI 1)) = 0
            · rw [if_pos hc_5, if_pos hc_5]
              exact fun q => absurd rfl q
            · rw [if_neg hc_5, if_neg hc_5]
              intro hq0
              have e0 : ∀ v : Int32, tn (upd z 9 v 8) = tn (z 8) := fun v => rfl
              have s_z_94 := takesOne_at (z := (upd z 9 (tx (tn (z 8))))) (tx := tx) (c1 := (nI 102)) ((PT_u h (by decide) (by decide)))
              have s_z_100 := takesOne_at (z := (m_X5_takesOne_z (upd z 9 (tx (tn (z 8)))) tx (nI 102))) (tx := tx) (c1 := (nI 116)) ((PT_takesOne (PT_u h (by decide) (by decide))))
              have s_z_106 := takesOne_at (z := (m_X5_takesOne_z (m_X5_takesOne_z (upd z 9 (tx (tn (z 8)))) tx (nI 102)) tx (nI 116))) (tx := tx) (c1 := (nI 113)) ((PT_takesOne (PT_takesOne (PT_u h (by decide) (by decide)))))
              have s_z_112 := takesOne_at (z := (m_X5_takesOne_z (m_X5_takesOne_z (m_X5_takesOne_z (upd z 9 (tx (tn (z 8)))) tx (nI 102)) tx (nI 116)) tx (nI 113))) (tx := tx) (c1 := (nI 109)) ((PT_takesOne (PT_takesOne (PT_takesOne (PT_u h (by decide) (by decide))))))
              have t_z_112 := s_z_112.2 hc_4
              have s_z_118 := readsNumber_at (z := (m_X5_takesOne_z (m_X5_takesOne_z (m_X5_takesOne_z (m_X5_takesOne_z (upd z 9 (tx (tn (z 8)))) tx (nI 102)) tx (nI 116)) tx (nI 113)) tx (nI 109))) (tx := tx) (dg := (nI 1)) ((PT_takesOne (PT_takesOne (PT_takesOne (PT_takesOne (PT_u h (by decide) (by decide)))))))
              have e1 := e0 (tx (tn (z 8)))
              have e2 := e0 (nI 0)
              omega
        · rw [if_neg hc_3, if_neg hc_3]
          by_cases hc_4 : (m_X5_readsNumber_r (m_X5_takesOne_z (m_X5_takesOne_z (m_X5_takesOne_z (upd z 9 (tx (tn (z 8)))) tx (nI 102)) tx (nI 116)) tx (nI 113)) tx (nI 1)) = 0
          · rw [if_pos hc_4, if_pos hc_4]
            exact fun q => absurd rfl q
          · rw [if_neg hc_4, if_neg hc_4]
            by_cases hc_5 : (m_X5_takesOne_r (m_X5_readsNumber_z (m_X5_takesOne_z (m_X5_takesOne_z (m_X5_takesOne_z (upd z 9 (tx (tn (z 8)))) tx (nI 102)) tx (nI 116)) tx (nI 113)) tx (nI 1)) tx (nI 61)) = 0
            · rw [if_pos hc_5, if_pos hc_5]
              exact fun q => absurd rfl q
            · rw [if_neg hc_5, if_neg hc_5]
              by_cases hc_6 : (m_X5_readsNumber_r (m_X5_takesOne_z (m_X5_readsNumber_z (m_X5_takesOne_z (m_X5_takesOne_z (m_X5_takesOne_z (upd z 9 (tx (tn (z 8)))) tx (nI 102)) tx (nI 116)) tx (nI 113)) tx (nI 1)) tx (nI 61)) tx (nI 2)) = 0
              · rw [if_pos hc_6, if_pos hc_6]
                exact fun q => absurd rfl q
              · rw [if_neg hc_6, if_neg hc_6]
                by_cases hc_7 : (m_X5_takesOne_r (m_X5_readsNumber_z (m_X5_takesOne_z (m_X5_readsNumber_z (m_X5_takesOne_z (m_X5_takesOne_z (m_X5_takesOne_z (upd z 9 (tx (tn (z 8)))) tx (nI 102)) tx (nI 116)) tx (nI 113)) tx (nI 1)) tx (nI 61)) tx (nI 2)) tx (nI 44)) = 0
                · rw [if_pos hc_7, if_pos hc_7]
                  exact fun q => absurd rfl q
                · rw [if_neg hc_7, if_neg hc_7]
                  by_cases hc_8 : (m_X5_readsNumber_r (m_X5_takesOne_z (m_X5_readsNumber_z (m_X5_takesOne_z (m_X5_readsNumber_z (m_X5_takesOne_z (m_X5_takesOne_z (m_X5_takesOne_z (upd z 9 (tx (tn (z 8)))) tx (nI 102)) tx (nI 116)) tx (nI 113)) tx (nI 1)) tx (nI 61)) tx (nI 2)) tx (nI 44)) tx (nI 2)) = 0
                  · rw [if_pos hc_8, if_pos hc_8]
                    exact fun q => absurd rfl q
                  · rw [if_neg hc_8, if_neg hc_8]
                    intro hq0
                    have e0 : ∀ v : Int32, tn (upd z 9 v 8) = tn (z 8) := fun v => rfl
                    have s_z_94 := takesOne_at (z := (upd z 9 (tx (tn (z 8))))) (tx := tx) (c1 := (nI 102)) ((PT_u h (by decide) (by decide)))
                    have s_z_100 := takesOne_at (z := (m_X5_takesOne_z (upd z 9 (tx (tn (z 8)))) tx (nI 102))) (tx := tx) (c1 := (nI 116)) ((PT_takesOne (PT_u h (by decide) (by decide))))
                    have s_z_106 := takesOne_at (z := (m_X5_takesOne_z (m_X5_takesOne_z (upd z 9 (tx (tn (z 8)))) tx (nI 102)) tx (nI 116))) (tx := tx) (c1 := (nI 113)) ((PT_takesOne (PT_takesOne (PT_u h (by decide) (by decide)))))
                    have t_z_106 := s_z_106.2 hc_3
                    have s_z_125 := readsNumber_at (z := (m_X5_takesOne_z (m_X5_takesOne_z (m_X5_takesOne_z (upd z 9 (tx (tn (z 8)))) tx (nI 102)) tx (nI 116)) tx (nI 113))) (tx := tx) (dg := (nI 1)) ((PT_takesOne (PT_takesOne (PT_takesOne (PT_u h (by decide) (by decide))))))
                    have s_z_132 := takesOne_at (z := (m_X5_readsNumber_z (m_X5_takesOne_z (m_X5_takesOne_z (m_X5_takesOne_z (upd z 9 (tx (tn (z 8)))) tx (nI 102)) tx (nI 116)) tx (nI 113)) tx (nI 1))) (tx := tx) (c1 := (nI 61)) ((PT_readsNumber (PT_takesOne (PT_takesOne (PT_takesOne (PT_u h (by decide) (by decide)))))))
                    have t_z_132 := s_z_132.2 hc_5
                    have s_z_138 := readsNumber_at (z := (m_X5_takesOne_z (m_X5_readsNumber_z (m_X5_takesOne_z (m_X5_takesOne_z (m_X5_takesOne_z (upd z 9 (tx (tn (z 8)))) tx (nI 102)) tx (nI 116)) tx (nI 113)) tx (nI 1)) tx (nI 61))) (tx := tx) (dg := (nI 2)) ((PT_takesOne (PT_readsNumber (PT_takesOne (PT_takesOne (PT_takesOne (PT_u h (by decide) (by decide))))))))
                    have s_z_145 := takesOne_at (z := (m_X5_readsNumber_z (m_X5_takesOne_z (m_X5_readsNumber_z (m_X5_takesOne_z (m_X5_takesOne_z (m_X5_takesOne_z (upd z 9 (tx (tn (z 8)))) tx (nI 102)) tx (nI 116)) tx (nI 113)) tx (nI 1)) tx (nI 61)) tx (nI 2))) (tx := tx) (c1 := (nI 44)) ((PT_readsNumber (PT_takesOne (PT_readsNumber (PT_takesOne (PT_takesOne (PT_takesOne (PT_u h (by decide) (by decide)))))))))
                    have t_z_145 := s_z_145.2 hc_7
                    have s_z_151 := readsNumber_at (z := (m_X5_takesOne_z (m_X5_readsNumber_z (m_X5_takesOne_z (m_X5_readsNumber_z (m_X5_takesOne_z (m_X5_takesOne_z (m_X5_takesOne_z (upd z 9 (tx (tn (z 8)))) tx (nI 102)) tx (nI 116)) tx (nI 113)) tx (nI 1)) tx (nI 61)) tx (nI 2)) tx (nI 44))) (tx := tx) (dg := (nI 2)) ((PT_takesOne (PT_readsNumber (PT_takesOne (PT_readsNumber (PT_takesOne (PT_takesOne (PT_takesOne (PT_u h (by decide) (by decide))))))))))
                    have e1 := e0 (tx (tn (z 8)))
                    have e2 := e0 (nI 0)
                    omega
      · rw [if_neg hc_2, if_neg hc_2]
        intro hq0
        have e0 : ∀ v : Int32, tn (upd z 9 v 8) = tn (z 8) := fun v => rfl
        have s_z_94 := takesOne_at (z := (upd z 9 (tx (tn (z 8))))) (tx := tx) (c1 := (nI 102)) ((PT_u h (by decide) (by decide)))
        have s_z_100 := takesOne_at (z := (m_X5_takesOne_z (upd z 9 (tx (tn (z 8)))) tx (nI 102))) (tx := tx) (c1 := (nI 116)) ((PT_takesOne (PT_u h (by decide) (by decide))))
        have t_z_100 := s_z_100.2 hc_2
        have s_z_158 := readsNumber_at (z := (m_X5_takesOne_z (m_X5_takesOne_z (upd z 9 (tx (tn (z 8)))) tx (nI 102)) tx (nI 116))) (tx := tx) (dg := (nI 2)) ((PT_takesOne (PT_takesOne (PT_u h (by decide) (by decide)))))
        have e1 := e0 (tx (tn (z 8)))
        have e2 := e0 (nI 0)
        omega
    · rw [if_neg hc_1, if_neg hc_1]
      by_cases hc_2 : (m_X5_readsNumber_r (m_X5_takesOne_z (upd z 9 (tx (tn (z 8)))) tx (nI 102)) tx (nI 2)) = 0
      · rw [if_pos hc_2, if_pos hc_2]
        exact fun q => absurd rfl q
      · rw [if_neg hc_2, if_neg hc_2]
        by_cases hc_3 : (m_X5_takesOne_r (m_X5_readsNumber_z (m_X5_takesOne_z (upd z 9 (tx (tn (z 8)))) tx (nI 102)) tx (nI 2)) tx (nI 42)) = 0
        · rw [if_pos hc_3, if_pos hc_3]
          intro hq0
          have e0 : ∀ v : Int32, tn (upd z 9 v 8) = tn (z 8) := fun v => rfl
          have s_z_94 := takesOne_at (z := (upd z 9 (tx (tn (z 8))))) (tx := tx) (c1 := (nI 102)) ((PT_u h (by decide) (by decide)))
          have t_z_94 := s_z_94.2 hc_1
          have s_z_164 := readsNumber_at (z := (m_X5_takesOne_z (upd z 9 (tx (tn (z 8)))) tx (nI 102))) (tx := tx) (dg := (nI 2)) ((PT_takesOne (PT_u h (by decide) (by decide))))
          have s_z_171 := takesOne_at (z := (m_X5_readsNumber_z (m_X5_takesOne_z (upd z 9 (tx (tn (z 8)))) tx (nI 102)) tx (nI 2))) (tx := tx) (c1 := (nI 42)) ((PT_readsNumber (PT_takesOne (PT_u h (by decide) (by decide)))))
          have e1 := e0 (tx (tn (z 8)))
          have e2 := e0 (nI 0)
          omega
        · rw [if_neg hc_3, if_neg hc_3]
          by_cases hc_4 : (m_X5_readsNumber_r (m_X5_takesOne_z (m_X5_readsNumber_z (m_X5_takesOne_z (upd z 9 (tx (tn (z 8)))) tx (nI 102)) tx (nI 2)) tx (nI 42)) tx (nI 2)) = 0
          · rw [if_pos hc_4, if_pos hc_4]
            exact fun q => absurd rfl q
          · rw [if_neg hc_4, if_neg hc_4]
            intro hq0
            have e0 : ∀ v : Int32, tn (upd z 9 v 8) = tn (z 8) := fun v => rfl
            have s_z_94 := takesOne_at (z := (upd z 9 (tx (tn (z 8))))) (tx := tx) (c1 := (nI 102)) ((PT_u h (by decide) (by decide)))
            have t_z_94 := s_z_94.2 hc_1
            have s_z_164 := readsNumber_at (z := (m_X5_takesOne_z (upd z 9 (tx (tn (z 8)))) tx (nI 102))) (tx := tx) (dg := (nI 2)) ((PT_takesOne (PT_u h (by decide) (by decide))))
            have s_z_171 := takesOne_at (z := (m_X5_readsNumber_z (m_X5_takesOne_z (upd z 9 (tx (tn (z 8)))) tx (nI 102)) tx (nI 2))) (tx := tx) (c1 := (nI 42)) ((PT_readsNumber (PT_takesOne (PT_u h (by decide) (by decide)))))
            have t_z_171 := s_z_171.2 hc_3
            have s_z_177 := readsNumber_at (z := (m_X5_takesOne_z (m_X5_readsNumber_z (m_X5_takesOne_z (upd z 9 (tx (tn (z 8)))) tx (nI 102)) tx (nI 2)) tx (nI 42))) (tx := tx) (dg := (nI 2)) ((PT_takesOne (PT_readsNumber (PT_takesOne (PT_u h (by decide) (by decide))))))
            have e1 := e0 (tx (tn (z 8)))
            have e2 := e0 (nI 0)
            omega
