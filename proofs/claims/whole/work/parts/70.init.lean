/-! The start: what the two constructors make holds what holds between two calls -/
theorem cn_iC : cn iC = 0 := by decide +kernel
theorem CORE_init : CORE iC iRf := by
  refine ⟨?_, by decide +kernel, by decide +kernel, by decide +kernel, fun i hi => ?_, fun q hq => ?_⟩
  · unfold CM; decide +kernel
  · rw [cn_iC] at hi; exact absurd hi (Nat.not_lt_zero i)
  · rcases (by omega : q = 0 ∨ q = 1 ∨ q = 2) with rfl | rfl | rfl <;> exact ⟨by decide +kernel, by decide +kernel, by decide +kernel, Or.inl (by decide +kernel)⟩
theorem WF_init : WF iRf := by
  unfold WF
  decide +kernel
theorem SIM_init : SIM iC iRf := by
  refine ⟨CORE_init, WF_init, [], ⟨by decide +kernel, fun i x h => by simp at h, List.nodup_nil, fun x h => by simp at h⟩, fun q hq => Or.inl ⟨List.not_mem_nil, ?_⟩⟩
  rcases (by omega : q = 0 ∨ q = 1 ∨ q = 2) with rfl | rfl | rfl <;> decide +kernel
theorem ST_init : ST iRf := by
  refine ⟨by decide +kernel, by decide +kernel, fun q hq => ⟨?_, 10, ?_, by decide, by decide⟩⟩
  · rcases (by omega : q = 0 ∨ q = 1 ∨ q = 2) with rfl | rfl | rfl <;> decide +kernel
  · rcases (by omega : q = 0 ∨ q = 1 ∨ q = 2) with rfl | rfl | rfl <;> decide +kernel
theorem INV_init : INV (fun _ => iC) 0 0 oQ iP oQ oQ iRf oQ oQ oQ oQ oQ := by
  refine ⟨by decide, by decide, by decide +kernel, SIM_init, ST_init, fun i hi => absurd hi (Nat.not_lt_zero i), fun i hi => Or.inl ⟨(by decide +kernel : (0 : Int32) = nI 0), rfl⟩, ⟨?_, ?_, by decide +kernel, fun i hi => ?_⟩, ?_⟩
  · unfold PD; decide +kernel
  · unfold PT; decide +kernel
  · exact absurd hi (by rw [show tn (oQ 7) = 0 by decide +kernel]; exact Nat.not_lt_zero i)
  · unfold TD; intro j hj; rcases (by omega : j = 0 ∨ j = 1 ∨ j = 2) with rfl | rfl | rfl <;> decide +kernel
