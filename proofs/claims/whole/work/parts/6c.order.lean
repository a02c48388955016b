/-! One order, as the class and as the reference read it -/
def coC_r (y g : Nat → Int32) : Int32 := if (m_X2_readSign_r y g (nI 102)) = 0 then (if (m_X2_readSign_r (m_X2_readSign_z y g (nI 102)) g (nI 116)) = 0 then (if (m_X2_readSign_r (m_X2_readSign_z (m_X2_readSign_z y g (nI 102)) g (nI 116)) g (nI 113)) = 0 then (if (m_X2_readSign_r (m_X2_readSign_z (m_X2_readSign_z (m_X2_readSign_z y g (nI 102)) g (nI 116)) g (nI 113)) g (nI 109)) = 0 then nI 0 else if (m_X2_readDigit_z (upd (m_X2_readSign_z (m_X2_readSign_z (m_X2_readSign_z (m_X2_readSign_z y g (nI 102)) g (nI 116)) g (nI 113)) g (nI 109)) 4 (nI 109)) g) 3 = 0 then nI 1 else nI 0) else if (m_X2_readBounds_z (m_X2_readSign_z (m_X2_readSign_z (m_X2_readSign_z y g (nI 102)) g (nI 116)) g (nI 113)) g) 3 = 0 then nI 1 else nI 0) else if (m_X2_readNumber_z (upd (m_X2_readSign_z (m_X2_readSign_z y g (nI 102)) g (nI 116)) 4 (nI 116)) g) 3 = 0 then nI 1 else nI 0) else if (m_X2_readFrames_z (m_X2_readSign_z y g (nI 102)) g) 3 = 0 then nI 1 else nI 0
def coC_z (y g : Nat → Int32) : Nat → Int32 := if (m_X2_readSign_r y g (nI 102)) = 0 then (if (m_X2_readSign_r (m_X2_readSign_z y g (nI 102)) g (nI 116)) = 0 then (if (m_X2_readSign_r (m_X2_readSign_z (m_X2_readSign_z y g (nI 102)) g (nI 116)) g (nI 113)) = 0 then (if (m_X2_readSign_r (m_X2_readSign_z (m_X2_readSign_z (m_X2_readSign_z y g (nI 102)) g (nI 116)) g (nI 113)) g (nI 109)) = 0 then upd (m_X2_readSign_z (m_X2_readSign_z (m_X2_readSign_z (m_X2_readSign_z y g (nI 102)) g (nI 116)) g (nI 113)) g (nI 109)) 3 (nI 1) else if (m_X2_readDigit_z (upd (m_X2_readSign_z (m_X2_readSign_z (m_X2_readSign_z (m_X2_readSign_z y g (nI 102)) g (nI 116)) g (nI 113)) g (nI 109)) 4 (nI 109)) g) 3 = 0 then upd (m_X2_readDigit_z (upd (m_X2_readSign_z (m_X2_readSign_z (m_X2_readSign_z (m_X2_readSign_z y g (nI 102)) g (nI 116)) g (nI 113)) g (nI 109)) 4 (nI 109)) g) 5 (m_X2_readDigit_r (upd (m_X2_readSign_z (m_X2_readSign_z (m_X2_readSign_z (m_X2_readSign_z y g (nI 102)) g (nI 116)) g (nI 113)) g (nI 109)) 4 (nI 109)) g) else upd (m_X2_readDigit_z (upd (m_X2_readSign_z (m_X2_readSign_z (m_X2_readSign_z (m_X2_readSign_z y g (nI 102)) g (nI 116)) g (nI 113)) g (nI 109)) 4 (nI 109)) g) 5 (m_X2_readDigit_r (upd (m_X2_readSign_z (m_X2_readSign_z (m_X2_readSign_z (m_X2_readSign_z y g (nI 102)) g (nI 116)) g (nI 113)) g (nI 109)) 4 (nI 109)) g)) else if (m_X2_readBounds_z (m_X2_readSign_z (m_X2_readSign_z (m_X2_readSign_z y g (nI 102)) g (nI 116)) g (nI 113)) g) 3 = 0 then (m_X2_readBounds_z (m_X2_readSign_z (m_X2_readSign_z (m_X2_readSign_z y g (nI 102)) g (nI 116)) g (nI 113)) g) else (m_X2_readBounds_z (m_X2_readSign_z (m_X2_readSign_z (m_X2_readSign_z y g (nI 102)) g (nI 116)) g (nI 113)) g)) else if (m_X2_readNumber_z (upd (m_X2_readSign_z (m_X2_readSign_z y g (nI 102)) g (nI 116)) 4 (nI 116)) g) 3 = 0 then upd (m_X2_readNumber_z (upd (m_X2_readSign_z (m_X2_readSign_z y g (nI 102)) g (nI 116)) 4 (nI 116)) g) 5 (m_X2_readNumber_r (upd (m_X2_readSign_z (m_X2_readSign_z y g (nI 102)) g (nI 116)) 4 (nI 116)) g) else upd (m_X2_readNumber_z (upd (m_X2_readSign_z (m_X2_readSign_z y g (nI 102)) g (nI 116)) 4 (nI 116)) g) 5 (m_X2_readNumber_r (upd (m_X2_readSign_z (m_X2_readSign_z y g (nI 102)) g (nI 116)) 4 (nI 116)) g)) else if (m_X2_readFrames_z (m_X2_readSign_z y g (nI 102)) g) 3 = 0 then (m_X2_readFrames_z (m_X2_readSign_z y g (nI 102)) g) else (m_X2_readFrames_z (m_X2_readSign_z y g (nI 102)) g)
theorem coC_eq (z g : Nat → Int32) : m_X2_readOrder_r z g = (if tn (z 2) ≤ 0 then coC_r (upd z 8 (nI 1)) g else if (m_X2_readSign_r z g (nI 59)) = 0 then nI 0 else coC_r (upd (m_X2_readSign_z z g (nI 59)) 8 (nI 1)) g) ∧ m_X2_readOrder_z z g = (if tn (z 2) ≤ 0 then coC_z (upd z 8 (nI 1)) g else if (m_X2_readSign_r z g (nI 59)) = 0 then (m_X2_readSign_z z g (nI 59)) else coC_z (upd (m_X2_readSign_z z g (nI 59)) 8 (nI 1)) g) := ⟨rfl, rfl⟩
def coR_r (y tx : Nat → Int32) : Int32 := if (m_X5_takesOne_r y tx (nI 102)) = 0 then (if (m_X5_takesOne_r (m_X5_takesOne_z y tx (nI 102)) tx (nI 116)) = 0 then (if (m_X5_takesOne_r (m_X5_takesOne_z (m_X5_takesOne_z y tx (nI 102)) tx (nI 116)) tx (nI 113)) = 0 then (if (m_X5_takesOne_r (m_X5_takesOne_z (m_X5_takesOne_z (m_X5_takesOne_z y tx (nI 102)) tx (nI 116)) tx (nI 113)) tx (nI 109)) = 0 then nI 0 else if (m_X5_readsNumber_r (m_X5_takesOne_z (m_X5_takesOne_z (m_X5_takesOne_z (m_X5_takesOne_z y tx (nI 102)) tx (nI 116)) tx (nI 113)) tx (nI 109)) tx (nI 1)) = 0 then nI 0 else nI 1) else if (m_X5_readsNumber_r (m_X5_takesOne_z (m_X5_takesOne_z (m_X5_takesOne_z y tx (nI 102)) tx (nI 116)) tx (nI 113)) tx (nI 1)) = 0 then nI 0 else if (m_X5_takesOne_r (m_X5_readsNumber_z (m_X5_takesOne_z (m_X5_takesOne_z (m_X5_takesOne_z y tx (nI 102)) tx (nI 116)) tx (nI 113)) tx (nI 1)) tx (nI 61)) = 0 then nI 0 else if (m_X5_readsNumber_r (m_X5_takesOne_z (m_X5_readsNumber_z (m_X5_takesOne_z (m_X5_takesOne_z (m_X5_takesOne_z y tx (nI 102)) tx (nI 116)) tx (nI 113)) tx (nI 1)) tx (nI 61)) tx (nI 2)) = 0 then nI 0 else if (m_X5_takesOne_r (m_X5_readsNumber_z (m_X5_takesOne_z (m_X5_readsNumber_z (m_X5_takesOne_z (m_X5_takesOne_z (m_X5_takesOne_z y tx (nI 102)) tx (nI 116)) tx (nI 113)) tx (nI 1)) tx (nI 61)) tx (nI 2)) tx (nI 44)) = 0 then nI 0 else if (m_X5_readsNumber_r (m_X5_takesOne_z (m_X5_readsNumber_z (m_X5_takesOne_z (m_X5_readsNumber_z (m_X5_takesOne_z (m_X5_takesOne_z (m_X5_takesOne_z y tx (nI 102)) tx (nI 116)) tx (nI 113)) tx (nI 1)) tx (nI 61)) tx (nI 2)) tx (nI 44)) tx (nI 2)) = 0 then nI 0 else nI 1) else (m_X5_readsNumber_r (m_X5_takesOne_z (m_X5_takesOne_z y tx (nI 102)) tx (nI 116)) tx (nI 2))) else if (m_X5_readsNumber_r (m_X5_takesOne_z y tx (nI 102)) tx (nI 2)) = 0 then nI 0 else if (m_X5_takesOne_r (m_X5_readsNumber_z (m_X5_takesOne_z y tx (nI 102)) tx (nI 2)) tx (nI 42)) = 0 then nI 1 else if (m_X5_readsNumber_r (m_X5_takesOne_z (m_X5_readsNumber_z (m_X5_takesOne_z y tx (nI 102)) tx (nI 2)) tx (nI 42)) tx (nI 2)) = 0 then nI 0 else nI 1
def coR_z (y tx : Nat → Int32) : Nat → Int32 := if (m_X5_takesOne_r y tx (nI 102)) = 0 then (if (m_X5_takesOne_r (m_X5_takesOne_z y tx (nI 102)) tx (nI 116)) = 0 then (if (m_X5_takesOne_r (m_X5_takesOne_z (m_X5_takesOne_z y tx (nI 102)) tx (nI 116)) tx (nI 113)) = 0 then (if (m_X5_takesOne_r (m_X5_takesOne_z (m_X5_takesOne_z (m_X5_takesOne_z y tx (nI 102)) tx (nI 116)) tx (nI 113)) tx (nI 109)) = 0 then (m_X5_takesOne_z (m_X5_takesOne_z (m_X5_takesOne_z (m_X5_takesOne_z y tx (nI 102)) tx (nI 116)) tx (nI 113)) tx (nI 109)) else if (m_X5_readsNumber_r (m_X5_takesOne_z (m_X5_takesOne_z (m_X5_takesOne_z (m_X5_takesOne_z y tx (nI 102)) tx (nI 116)) tx (nI 113)) tx (nI 109)) tx (nI 1)) = 0 then (m_X5_readsNumber_z (m_X5_takesOne_z (m_X5_takesOne_z (m_X5_takesOne_z (m_X5_takesOne_z y tx (nI 102)) tx (nI 116)) tx (nI 113)) tx (nI 109)) tx (nI 1)) else (m_X5_readsNumber_z (m_X5_takesOne_z (m_X5_takesOne_z (m_X5_takesOne_z (m_X5_takesOne_z y tx (nI 102)) tx (nI 116)) tx (nI 113)) tx (nI 109)) tx (nI 1))) else if (m_X5_readsNumber_r (m_X5_takesOne_z (m_X5_takesOne_z (m_X5_takesOne_z y tx (nI 102)) tx (nI 116)) tx (nI 113)) tx (nI 1)) = 0 then (m_X5_readsNumber_z (m_X5_takesOne_z (m_X5_takesOne_z (m_X5_takesOne_z y tx (nI 102)) tx (nI 116)) tx (nI 113)) tx (nI 1)) else if (m_X5_takesOne_r (m_X5_readsNumber_z (m_X5_takesOne_z (m_X5_takesOne_z (m_X5_takesOne_z y tx (nI 102)) tx (nI 116)) tx (nI 113)) tx (nI 1)) tx (nI 61)) = 0 then (m_X5_takesOne_z (m_X5_readsNumber_z (m_X5_takesOne_z (m_X5_takesOne_z (m_X5_takesOne_z y tx (nI 102)) tx (nI 116)) tx (nI 113)) tx (nI 1)) tx (nI 61)) else if (m_X5_readsNumber_r (m_X5_takesOne_z (m_X5_readsNumber_z (m_X5_takesOne_z (m_X5_takesOne_z (m_X5_takesOne_z y tx (nI 102)) tx (nI 116)) tx (nI 113)) tx (nI 1)) tx (nI 61)) tx (nI 2)) = 0 then (m_X5_readsNumber_z (m_X5_takesOne_z (m_X5_readsNumber_z (m_X5_takesOne_z (m_X5_takesOne_z (m_X5_takesOne_z y tx (nI 102)) tx (nI 116)) tx (nI 113)) tx (nI 1)) tx (nI 61)) tx (nI 2)) else if (m_X5_takesOne_r (m_X5_readsNumber_z (m_X5_takesOne_z (m_X5_readsNumber_z (m_X5_takesOne_z (m_X5_takesOne_z (m_X5_takesOne_z y tx (nI 102)) tx (nI 116)) tx (nI 113)) tx (nI 1)) tx (nI 61)) tx (nI 2)) tx (nI 44)) = 0 then (m_X5_takesOne_z (m_X5_readsNumber_z (m_X5_takesOne_z (m_X5_readsNumber_z (m_X5_takesOne_z (m_X5_takesOne_z (m_X5_takesOne_z y tx (nI 102)) tx (nI 116)) tx (nI 113)) tx (nI 1)) tx (nI 61)) tx (nI 2)) tx (nI 44)) else if (m_X5_readsNumber_r (m_X5_takesOne_z (m_X5_readsNumber_z (m_X5_takesOne_z (m_X5_readsNumber_z (m_X5_takesOne_z (m_X5_takesOne_z (m_X5_takesOne_z y tx (nI 102)) tx (nI 116)) tx (nI 113)) tx (nI 1)) tx (nI 61)) tx (nI 2)) tx (nI 44)) tx (nI 2)) = 0 then (m_X5_readsNumber_z (m_X5_takesOne_z (m_X5_readsNumber_z (m_X5_takesOne_z (m_X5_readsNumber_z (m_X5_takesOne_z (m_X5_takesOne_z (m_X5_takesOne_z y tx (nI 102)) tx (nI 116)) tx (nI 113)) tx (nI 1)) tx (nI 61)) tx (nI 2)) tx (nI 44)) tx (nI 2)) else (m_X5_readsNumber_z (m_X5_takesOne_z (m_X5_readsNumber_z (m_X5_takesOne_z (m_X5_readsNumber_z (m_X5_takesOne_z (m_X5_takesOne_z (m_X5_takesOne_z y tx (nI 102)) tx (nI 116)) tx (nI 113)) tx (nI 1)) tx (nI 61)) tx (nI 2)) tx (nI 44)) tx (nI 2))) else (m_X5_readsNumber_z (m_X5_takesOne_z (m_X5_takesOne_z y tx (nI 102)) tx (nI 116)) tx (nI 2))) else if (m_X5_readsNumber_r (m_X5_takesOne_z y tx (nI 102)) tx (nI 2)) = 0 then (m_X5_readsNumber_z (m_X5_takesOne_z y tx (nI 102)) tx (nI 2)) else if (m_X5_takesOne_r (m_X5_readsNumber_z (m_X5_takesOne_z y tx (nI 102)) tx (nI 2)) tx (nI 42)) = 0 then (m_X5_takesOne_z (m_X5_readsNumber_z (m_X5_takesOne_z y tx (nI 102)) tx (nI 2)) tx (nI 42)) else if (m_X5_readsNumber_r (m_X5_takesOne_z (m_X5_readsNumber_z (m_X5_takesOne_z y tx (nI 102)) tx (nI 2)) tx (nI 42)) tx (nI 2)) = 0 then (m_X5_readsNumber_z (m_X5_takesOne_z (m_X5_readsNumber_z (m_X5_takesOne_z y tx (nI 102)) tx (nI 2)) tx (nI 42)) tx (nI 2)) else (m_X5_readsNumber_z (m_X5_takesOne_z (m_X5_readsNumber_z (m_X5_takesOne_z y tx (nI 102)) tx (nI 2)) tx (nI 42)) tx (nI 2))
def coR_td (y tx td : Nat → Int32) : Nat → Int32 := if (m_X5_takesOne_r y tx (nI 102)) = 0 then (if (m_X5_takesOne_r (m_X5_takesOne_z y tx (nI 102)) tx (nI 116)) = 0 then (if (m_X5_takesOne_r (m_X5_takesOne_z (m_X5_takesOne_z y tx (nI 102)) tx (nI 116)) tx (nI 113)) = 0 then (if (m_X5_takesOne_r (m_X5_takesOne_z (m_X5_takesOne_z (m_X5_takesOne_z y tx (nI 102)) tx (nI 116)) tx (nI 113)) tx (nI 109)) = 0 then td else if (m_X5_readsNumber_r (m_X5_takesOne_z (m_X5_takesOne_z (m_X5_takesOne_z (m_X5_takesOne_z y tx (nI 102)) tx (nI 116)) tx (nI 113)) tx (nI 109)) tx (nI 1)) = 0 then (m_X5_readsNumber_td (m_X5_takesOne_z (m_X5_takesOne_z (m_X5_takesOne_z (m_X5_takesOne_z y tx (nI 102)) tx (nI 116)) tx (nI 113)) tx (nI 109)) tx td 0 (nI 1)) else (m_X5_readsNumber_td (m_X5_takesOne_z (m_X5_takesOne_z (m_X5_takesOne_z (m_X5_takesOne_z y tx (nI 102)) tx (nI 116)) tx (nI 113)) tx (nI 109)) tx td 0 (nI 1))) else if (m_X5_readsNumber_r (m_X5_takesOne_z (m_X5_takesOne_z (m_X5_takesOne_z y tx (nI 102)) tx (nI 116)) tx (nI 113)) tx (nI 1)) = 0 then (m_X5_readsNumber_td (m_X5_takesOne_z (m_X5_takesOne_z (m_X5_takesOne_z y tx (nI 102)) tx (nI 116)) tx (nI 113)) tx td 0 (nI 1)) else if (m_X5_takesOne_r (m_X5_readsNumber_z (m_X5_takesOne_z (m_X5_takesOne_z (m_X5_takesOne_z y tx (nI 102)) tx (nI 116)) tx (nI 113)) tx (nI 1)) tx (nI 61)) = 0 then (m_X5_readsNumber_td (m_X5_takesOne_z (m_X5_takesOne_z (m_X5_takesOne_z y tx (nI 102)) tx (nI 116)) tx (nI 113)) tx td 0 (nI 1)) else if (m_X5_readsNumber_r (m_X5_takesOne_z (m_X5_readsNumber_z (m_X5_takesOne_z (m_X5_takesOne_z (m_X5_takesOne_z y tx (nI 102)) tx (nI 116)) tx (nI 113)) tx (nI 1)) tx (nI 61)) tx (nI 2)) = 0 then (m_X5_readsNumber_td (m_X5_takesOne_z (m_X5_readsNumber_z (m_X5_takesOne_z (m_X5_takesOne_z (m_X5_takesOne_z y tx (nI 102)) tx (nI 116)) tx (nI 113)) tx (nI 1)) tx (nI 61)) tx (m_X5_readsNumber_td (m_X5_takesOne_z (m_X5_takesOne_z (m_X5_takesOne_z y tx (nI 102)) tx (nI 116)) tx (nI 113)) tx td 0 (nI 1)) 1 (nI 2)) else if (m_X5_takesOne_r (m_X5_readsNumber_z (m_X5_takesOne_z (m_X5_readsNumber_z (m_X5_takesOne_z (m_X5_takesOne_z (m_X5_takesOne_z y tx (nI 102)) tx (nI 116)) tx (nI 113)) tx (nI 1)) tx (nI 61)) tx (nI 2)) tx (nI 44)) = 0 then (m_X5_readsNumber_td (m_X5_takesOne_z (m_X5_readsNumber_z (m_X5_takesOne_z (m_X5_takesOne_z (m_X5_takesOne_z y tx (nI 102)) tx (nI 116)) tx (nI 113)) tx (nI 1)) tx (nI 61)) tx (m_X5_readsNumber_td (m_X5_takesOne_z (m_X5_takesOne_z (m_X5_takesOne_z y tx (nI 102)) tx (nI 116)) tx (nI 113)) tx td 0 (nI 1)) 1 (nI 2)) else if (m_X5_readsNumber_r (m_X5_takesOne_z (m_X5_readsNumber_z (m_X5_takesOne_z (m_X5_readsNumber_z (m_X5_takesOne_z (m_X5_takesOne_z (m_X5_takesOne_z y tx (nI 102)) tx (nI 116)) tx (nI 113)) tx (nI 1)) tx (nI 61)) tx (nI 2)) tx (nI 44)) tx (nI 2)) = 0 then (m_X5_readsNumber_td (m_X5_takesOne_z (m_X5_readsNumber_z (m_X5_takesOne_z (m_X5_readsNumber_z (m_X5_takesOne_z (m_X5_takesOne_z (m_X5_takesOne_z y tx (nI 102)) tx (nI 116)) tx (nI 113)) tx (nI 1)) tx (nI 61)) tx (nI 2)) tx (nI 44)) tx (m_X5_readsNumber_td (m_X5_takesOne_z (m_X5_readsNumber_z (m_X5_takesOne_z (m_X5_takesOne_z (m_X5_takesOne_z y tx (nI 102)) tx (nI 116)) tx (nI 113)) tx (nI 1)) tx (nI 61)) tx (m_X5_readsNumber_td (m_X5_takesOne_z (m_X5_takesOne_z (m_X5_takesOne_z y tx (nI 102)) tx (nI 116)) tx (nI 113)) tx td 0 (nI 1)) 1 (nI 2)) 2 (nI 2)) else (m_X5_readsNumber_td (m_X5_takesOne_z (m_X5_readsNumber_z (m_X5_takesOne_z (m_X5_readsNumber_z (m_X5_takesOne_z (m_X5_takesOne_z (m_X5_takesOne_z y tx (nI 102)) tx (nI 116)) tx (nI 113)) tx (nI 1)) tx (nI 61)) tx (nI 2)) tx (nI 44)) tx (m_X5_readsNumber_td (m_X5_takesOne_z (m_X5_readsNumber_z (m_X5_takesOne_z (m_X5_takesOne_z (m_X5_takesOne_z y tx (nI 102)) tx (nI 116)) tx (nI 113)) tx (nI 1)) tx (nI 61)) tx (m_X5_readsNumber_td (m_X5_takesOne_z (m_X5_takesOne_z (m_X5_takesOne_z y tx (nI 102)) tx (nI 116)) tx (nI 113)) tx td 0 (nI 1)) 1 (nI 2)) 2 (nI 2))) else (m_X5_readsNumber_td (m_X5_takesOne_z (m_X5_takesOne_z y tx (nI 102)) tx (nI 116)) tx td 0 (nI 2))) else if (m_X5_readsNumber_r (m_X5_takesOne_z y tx (nI 102)) tx (nI 2)) = 0 then upd (m_X5_readsNumber_td (m_X5_takesOne_z y tx (nI 102)) tx td 0 (nI 2)) 1 (nI 1) else if (m_X5_takesOne_r (m_X5_readsNumber_z (m_X5_takesOne_z y tx (nI 102)) tx (nI 2)) tx (nI 42)) = 0 then upd (m_X5_readsNumber_td (m_X5_takesOne_z y tx (nI 102)) tx td 0 (nI 2)) 1 (nI 1) else if (m_X5_readsNumber_r (m_X5_takesOne_z (m_X5_readsNumber_z (m_X5_takesOne_z y tx (nI 102)) tx (nI 2)) tx (nI 42)) tx (nI 2)) = 0 then (m_X5_readsNumber_td (m_X5_takesOne_z (m_X5_readsNumber_z (m_X5_takesOne_z y tx (nI 102)) tx (nI 2)) tx (nI 42)) tx (upd (m_X5_readsNumber_td (m_X5_takesOne_z y tx (nI 102)) tx td 0 (nI 2)) 1 (nI 1)) 1 (nI 2)) else (m_X5_readsNumber_td (m_X5_takesOne_z (m_X5_readsNumber_z (m_X5_takesOne_z y tx (nI 102)) tx (nI 2)) tx (nI 42)) tx (upd (m_X5_readsNumber_td (m_X5_takesOne_z y tx (nI 102)) tx td 0 (nI 2)) 1 (nI 1)) 1 (nI 2))
theorem coR_r_eq (z tx : Nat → Int32) : m_X5_readsOrder_r z tx = (if tn (z 7) ≤ tn (z 8) then coR_r (upd z 9 (nI 0)) tx else coR_r (upd z 9 (tx (tn (z 8)))) tx) := rfl
theorem coR_z_eq (z tx : Nat → Int32) : m_X5_readsOrder_z z tx = (if tn (z 7) ≤ tn (z 8) then coR_z (upd z 9 (nI 0)) tx else coR_z (upd z 9 (tx (tn (z 8)))) tx) := rfl
theorem coR_td_eq (z tx td : Nat → Int32) : m_X5_readsOrder_td z tx td = (if tn (z 7) ≤ tn (z 8) then coR_td (upd z 9 (nI 0)) tx td else coR_td (upd z 9 (tx (tn (z 8)))) tx td) := rfl
def H (t : Nat → Int32) (L a : Nat) (c : Int32) : Prop := a < L ∧ t a = c
def Dg (t : Nat → Int32) (L a : Nat) : Prop := a < L ∧ ¬ t a < nI 48 ∧ ¬ nI 57 < t a
/-- a number of some two digits stands at a: its value, the place behind it -/
def NUM (t : Nat → Int32) (L a : Nat) (v : Int32) (e : Nat) : Prop := Dg t L a ∧ ((t a - nI 48 ≤ 0 ∨ ¬ Dg t L (a + 1)) ∧ v = t a - nI 48 ∧ e = a + 1 ∨ ¬ t a - nI 48 ≤ 0 ∧ Dg t L (a + 1) ∧ v = nI 10 * (t a - nI 48) + (t (a + 1) - nI 48) ∧ e = a + 2)
theorem num_ex {t : Nat → Int32} {L a : Nat} (h : Dg t L a) : ∃ v e, NUM t L a v e := by
  by_cases c1 : t a - nI 48 ≤ 0
  · exact ⟨_, _, h, Or.inl ⟨Or.inl c1, rfl, rfl⟩⟩
  · by_cases c2 : Dg t L (a + 1)
    · exact ⟨_, _, h, Or.inr ⟨c1, c2, rfl, rfl⟩⟩
    · exact ⟨_, _, h, Or.inl ⟨Or.inr c2, rfl, rfl⟩⟩
theorem num_le {t : Nat → Int32} {L a e : Nat} {v : Int32} (h : NUM t L a v e) : a < e ∧ e ≤ L := by
  obtain ⟨h1, h2⟩ := h
  have := h1.1
  rcases h2 with ⟨-, -, rfl⟩ | ⟨-, h3, -, rfl⟩
  · omega
  · have := h3.1; omega
theorem H_ne {t : Nat → Int32} {L a : Nat} {c c' : Int32} (h : H t L a c) (hn : ¬ c = c') : ¬ H t L a c' := fun h2 => hn (h.2.symm.trans h2.2)
/-! the class's reader at the place a of a text of L signs -/
def PC (y : Nat → Int32) (L a : Nat) : Prop := y 1 = nI L ∧ y 2 = nI a ∧ y 3 = nI 0 ∧ a ≤ L ∧ L ≤ 80
def AG2 (g t : Nat → Int32) (L : Nat) : Prop := ∀ i, i < L → g i = t i
theorem PC_adv {y : Nat → Int32} {L a b : Nat} (h : PC y L a) (hb : b ≤ L) : PC (upd y 2 (nI b)) L b := ⟨h.1, rfl, h.2.2.1, hb, h.2.2.2.2⟩
theorem PC_u {y : Nat → Int32} {L a i : Nat} {x : Int32} (h : PC y L a) (h1 : i ≠ 1) (h2 : i ≠ 2) (h3 : i ≠ 3) : PC (upd y i x) L a := ⟨(pk_un (fun e => h1 e.symm)).trans h.1, (pk_un (fun e => h2 e.symm)).trans h.2.1, (pk_un (fun e => h3 e.symm)).trans h.2.2.1, h.2.2.2⟩
theorem PC_1 {y : Nat → Int32} {L a : Nat} (h : PC y L a) : tn (y 1) = L := tn_of h.1 (by have := h.2.2.2.2; omega)
theorem PC_2 {y : Nat → Int32} {L a : Nat} (h : PC y L a) : tn (y 2) = a := tn_of h.2.1 (by have := h.2.2.2; omega)
theorem cs_no {y g t : Nat → Int32} {L a : Nat} {c : Int32} (hg : AG2 g t L) (h : PC y L a) (hn : ¬ H t L a c) : m_X2_readSign_r y g c = 0 ∧ m_X2_readSign_z y g c = y := by
  rw [m_X2_readSign_r, m_X2_readSign_z, if_pos (show y 3 = 0 from h.2.2.1), if_pos (show y 3 = 0 from h.2.2.1), PC_1 h, PC_2 h]
  by_cases c1 : L ≤ a
  · rw [if_pos c1, if_pos c1]; exact ⟨rfl, rfl⟩
  · have e : ¬ g a = c := fun e => hn ⟨by omega, by rw [← hg a (by omega)]; exact e⟩
    rw [if_neg c1, if_neg c1, if_neg e, if_neg e]; exact ⟨rfl, rfl⟩
theorem cs_yes {y g t : Nat → Int32} {L a : Nat} {c : Int32} (hg : AG2 g t L) (h : PC y L a) (hh : H t L a c) : ¬ m_X2_readSign_r y g c = 0 ∧ m_X2_readSign_z y g c = upd y 2 (nI (a + 1)) := by
  have e : g a = c := by rw [hg a hh.1]; exact hh.2
  have hl := hh.1
  rw [m_X2_readSign_r, m_X2_readSign_z, if_pos (show y 3 = 0 from h.2.2.1), if_pos (show y 3 = 0 from h.2.2.1), PC_1 h, PC_2 h, if_neg (show ¬ L ≤ a by omega), if_neg (show ¬ L ≤ a by omega), if_pos e, if_pos e]
  exact ⟨by decide +kernel, rfl⟩
theorem ds_no {y g t : Nat → Int32} {L a : Nat} (hg : AG2 g t L) (h : PC y L a) (hn : ¬ Dg t L a) : m_X2_digitStands_r y g = 0 := by
  rw [m_X2_digitStands_r, if_pos (show y 3 = 0 from h.2.2.1), PC_1 h, PC_2 h]
  by_cases c1 : L ≤ a
  · rw [if_pos c1]; rfl
  · rw [if_neg c1]
    by_cases c2 : g a < nI 48
    · rw [if_pos c2]; rfl
    · rw [if_neg c2]
      by_cases c3 : nI 57 < g a
      · rw [if_pos c3]; rfl
      · exact absurd ⟨by omega, by rw [← hg a (by omega)]; exact c2, by rw [← hg a (by omega)]; exact c3⟩ hn
theorem ds_yes {y g t : Nat → Int32} {L a : Nat} (hg : AG2 g t L) (h : PC y L a) (hd : Dg t L a) : ¬ m_X2_digitStands_r y g = 0 := by
  obtain ⟨d1, d2, d3⟩ := hd
  rw [← hg a d1] at d2 d3
  rw [m_X2_digitStands_r, if_pos (show y 3 = 0 from h.2.2.1), PC_1 h, PC_2 h, if_neg (by omega), if_neg d2, if_neg d3]
  decide +kernel
theorem cd_no {y g t : Nat → Int32} {L a : Nat} (hg : AG2 g t L) (h : PC y L a) (hn : ¬ Dg t L a) : m_X2_readDigit_r y g = nI 0 ∧ m_X2_readDigit_z y g = upd y 3 (nI 1) := by
  have e := ds_no hg h hn
  rw [m_X2_readDigit_r, m_X2_readDigit_z, if_pos e, if_pos e]
  exact ⟨rfl, rfl⟩
theorem cd_yes {y g t : Nat → Int32} {L a : Nat} (hg : AG2 g t L) (h : PC y L a) (hd : Dg t L a) : m_X2_readDigit_r y g = t a - nI 48 ∧ m_X2_readDigit_z y g = upd y 2 (nI (a + 1)) := by
  have e := ds_yes hg h hd
  rw [m_X2_readDigit_r, m_X2_readDigit_z, if_neg e, if_neg e, PC_2 h, hg a hd.1]
  exact ⟨rfl, rfl⟩
theorem upd_upd {f : Nat → Int32} {i : Nat} {x y : Int32} : upd (upd f i x) i y = upd f i y := by
  funext j
  by_cases e : j = i
  · subst e; rw [pk_us, pk_us]
  · rw [pk_un e, pk_un e, pk_un e]
theorem cn_no {y g t : Nat → Int32} {L a : Nat} (hg : AG2 g t L) (h : PC y L a) (hn : ¬ Dg t L a) : m_X2_readNumber_r y g = nI 0 ∧ m_X2_readNumber_z y g = upd y 3 (nI 1) := by
  obtain ⟨e1, e2⟩ := cd_no hg h hn
  rw [m_X2_readNumber_r, m_X2_readNumber_z, e1, e2, if_pos (by decide), if_pos (by decide)]
  exact ⟨rfl, rfl⟩
theorem cn_yes {y g t : Nat → Int32} {L a e : Nat} {v : Int32} (hg : AG2 g t L) (h : PC y L a) (hv : NUM t L a v e) : m_X2_readNumber_r y g = v ∧ m_X2_readNumber_z y g = upd y 2 (nI e) := by
  obtain ⟨hd, hv⟩ := hv
  obtain ⟨e1, e2⟩ := cd_yes hg h hd
  have hp : PC (upd y 2 (nI (a + 1))) L (a + 1) := PC_adv h (by have := hd.1; omega)
  rw [m_X2_readNumber_r, m_X2_readNumber_z, e1, e2]
  rcases hv with ⟨hv1, rfl, rfl⟩ | ⟨hv1, hv2, rfl, rfl⟩
  · by_cases c : t a - nI 48 ≤ 0
    · rw [if_pos c, if_pos c]; exact ⟨rfl, rfl⟩
    · rcases hv1 with hv1 | hv1
      · exact absurd hv1 c
      · have e3 := ds_no hg hp hv1
        rw [if_neg c, if_neg c, if_pos e3, if_pos e3]; exact ⟨rfl, rfl⟩
  · have e3 := ds_yes hg hp hv2
    obtain ⟨e4, e5⟩ := cd_yes hg hp hv2
    rw [if_neg hv1, if_neg hv1, if_neg e3, if_neg e3, e4, e5, upd_upd]; exact ⟨rfl, rfl⟩
/-! .. once it is broken -/
theorem bs {y g : Nat → Int32} {c : Int32} (h : y 3 = nI 1) : m_X2_readSign_r y g c = 0 ∧ m_X2_readSign_z y g c = y := by
  have n : ¬ y 3 = 0 := by rw [h]; decide +kernel
  rw [m_X2_readSign_r, m_X2_readSign_z, if_neg n, if_neg n]
  exact ⟨rfl, rfl⟩
theorem bn {y g : Nat → Int32} (h : y 3 = nI 1) : m_X2_readNumber_r y g = nI 0 ∧ m_X2_readNumber_z y g = y := by
  have n : ¬ y 3 = 0 := by rw [h]; decide +kernel
  have d : m_X2_digitStands_r y g = 0 := by rw [m_X2_digitStands_r, if_neg n]; rfl
  have e : upd y 3 (nI 1) = y := upd_id h
  have e1 : m_X2_readDigit_r y g = nI 0 := by rw [m_X2_readDigit_r, if_pos d]
  have e2 : m_X2_readDigit_z y g = y := by rw [m_X2_readDigit_z, if_pos d, e]
  rw [m_X2_readNumber_r, m_X2_readNumber_z, e1, e2, if_pos (by decide), if_pos (by decide)]
  exact ⟨rfl, rfl⟩
theorem bd {y g : Nat → Int32} {c : Int32} (h : y 3 = nI 1) : m_X2_demand_z y g c = y := by
  rw [m_X2_demand_z, (bs h).1, (bs h).2, if_pos rfl, upd_id h]
theorem dm_yes {y g t : Nat → Int32} {L a : Nat} {c : Int32} (hg : AG2 g t L) (h : PC y L a) (hh : H t L a c) : m_X2_demand_z y g c = upd y 2 (nI (a + 1)) := by
  obtain ⟨e1, e2⟩ := cs_yes hg h hh
  rw [m_X2_demand_z, if_neg e1, e2]
theorem dm_no {y g t : Nat → Int32} {L a : Nat} {c : Int32} (hg : AG2 g t L) (h : PC y L a) (hn : ¬ H t L a c) : m_X2_demand_z y g c = upd y 3 (nI 1) := by
  obtain ⟨e1, e2⟩ := cs_no hg h hn
  rw [m_X2_demand_z, if_pos e1, e2]
/-! the reference's reader -/
def PR (y : Nat → Int32) (L a : Nat) : Prop := y 7 = nI L ∧ y 8 = nI a ∧ a ≤ L ∧ L ≤ 80
theorem PR_adv {y : Nat → Int32} {L a b : Nat} (h : PR y L a) (hb : b ≤ L) : PR (upd y 8 (nI b)) L b := ⟨h.1, rfl, hb, h.2.2.2⟩
theorem PR_7 {y : Nat → Int32} {L a : Nat} (h : PR y L a) : tn (y 7) = L := tn_of h.1 (by have := h.2.2.2; omega)
theorem PR_8 {y : Nat → Int32} {L a : Nat} (h : PR y L a) : tn (y 8) = a := tn_of h.2.1 (by have := h.2.2; omega)
theorem is_no {y t : Nat → Int32} {L a : Nat} {c : Int32} (h : PR y L a) (hn : ¬ H t L a c) : m_X5_isHere_r y t c c = 0 := by
  rw [m_X5_isHere_r, PR_7 h, PR_8 h]
  by_cases c1 : L ≤ a
  · rw [if_pos c1]; rfl
  · rw [if_neg c1, if_pos]
    · rfl
    · rw [in0 (lo := c) (up := c) (Int32.toInt_toInt64 _) (Int32.toInt_toInt64 _)]
      refine Classical.byContradiction (fun n => hn ⟨by omega, ?_⟩)
      have n1 : ¬ t a < c := fun e => n (Or.inl e)
      have n2 : ¬ c < t a := fun e => n (Or.inr e)
      exact Int32.le_antisymm (Int32.not_lt.mp n2) (Int32.not_lt.mp n1)
theorem is_yes {y t : Nat → Int32} {L a : Nat} {c : Int32} (h : PR y L a) (hh : H t L a c) : ¬ m_X5_isHere_r y t c c = 0 := by
  have hl := hh.1
  rw [m_X5_isHere_r, PR_7 h, PR_8 h, if_neg (by omega), if_neg]
  · decide +kernel
  · rw [in0 (lo := c) (up := c) (Int32.toInt_toInt64 _) (Int32.toInt_toInt64 _), hh.2]
    intro n
    rcases n with n | n <;> exact absurd n (Int32.not_lt.mpr (Int32.le_refl c))
theorem rs_no {y t : Nat → Int32} {L a : Nat} {c : Int32} (h : PR y L a) (hn : ¬ H t L a c) : m_X5_takesOne_r y t c = 0 ∧ m_X5_takesOne_z y t c = y := by
  have e := is_no h hn
  rw [m_X5_takesOne_r, m_X5_takesOne_z, if_pos e, if_pos e, PR_8 h]
  exact ⟨e, upd_id h.2.1⟩
theorem rs_yes {y t : Nat → Int32} {L a : Nat} {c : Int32} (h : PR y L a) (hh : H t L a c) : ¬ m_X5_takesOne_r y t c = 0 ∧ m_X5_takesOne_z y t c = upd y 8 (nI (a + 1)) := by
  have e := is_yes h hh
  rw [m_X5_takesOne_r, m_X5_takesOne_z, if_neg e, if_neg e, PR_8 h]
  exact ⟨e, rfl⟩
theorem id_no {y t : Nat → Int32} {L a : Nat} (h : PR y L a) (hn : ¬ Dg t L a) : m_X5_isHere_r y t (nI 48) (nI 57) = 0 := by
  rw [m_X5_isHere_r, PR_7 h, PR_8 h]
  by_cases c1 : L ≤ a
  · rw [if_pos c1]; rfl
  · rw [if_neg c1, if_pos]
    · rfl
    · rw [in0 (lo := nI 48) (up := nI 57) (Int32.toInt_toInt64 _) (Int32.toInt_toInt64 _)]
      refine Classical.byContradiction (fun n => hn ⟨by omega, fun e => n (Or.inl e), fun e => n (Or.inr e)⟩)
theorem id_yes {y t : Nat → Int32} {L a : Nat} (h : PR y L a) (hd : Dg t L a) : ¬ m_X5_isHere_r y t (nI 48) (nI 57) = 0 := by
  obtain ⟨d1, d2, d3⟩ := hd
  rw [m_X5_isHere_r, PR_7 h, PR_8 h, if_neg (by omega), if_neg]
  · decide +kernel
  · rw [in0 (lo := nI 48) (up := nI 57) (Int32.toInt_toInt64 _) (Int32.toInt_toInt64 _)]
    intro n
    rcases n with n | n
    · exact d2 n
    · exact d3 n
theorem rn_no {y t td : Nat → Int32} {L a w : Nat} {dg : Int32} (h : PR y L a) (hn : ¬ Dg t L a) : m_X5_readsNumber_r y t dg = 0 ∧ m_X5_readsNumber_z y t dg = y ∧ m_X5_readsNumber_td y t td w dg = td := by
  have e := id_no h hn
  rw [m_X5_readsNumber_r, m_X5_readsNumber_z, m_X5_readsNumber_td, if_pos e, if_pos e, if_pos e]
  exact ⟨rfl, rfl, rfl⟩
theorem rn_1 {y t td : Nat → Int32} {L a w : Nat} (h : PR y L a) (hd : Dg t L a) : ¬ m_X5_readsNumber_r y t (nI 1) = 0 ∧ m_X5_readsNumber_z y t (nI 1) = upd y 8 (nI (a + 1)) ∧ m_X5_readsNumber_td y t td w (nI 1) = upd td w (t a - nI 48) := by
  have e := id_yes h hd
  have n : ¬ nI 1 = nI 2 := by decide +kernel
  rw [m_X5_readsNumber_r, m_X5_readsNumber_z, m_X5_readsNumber_td, if_neg e, if_neg e, if_neg e, if_neg n, if_neg n, if_neg n, PR_8 h]
  exact ⟨by decide +kernel, rfl, rfl⟩
theorem k_asub {a b c : Int32} : a + b - c = a + (b - c) := by rw [Int32.sub_eq_add_neg, Int32.sub_eq_add_neg, Int32.add_assoc]
theorem rn_2 {y t td : Nat → Int32} {L a w e : Nat} {v : Int32} (h : PR y L a) (hv : NUM t L a v e) : ¬ m_X5_readsNumber_r y t (nI 2) = 0 ∧ m_X5_readsNumber_z y t (nI 2) = upd y 8 (nI e) ∧ m_X5_readsNumber_td y t td w (nI 2) = upd td w v := by
  obtain ⟨hd, hv⟩ := hv
  have e1 := id_yes h hd
  have n : nI 2 = nI 2 := rfl
  have hp : PR (upd y 8 (nI (a + 1))) L (a + 1) := PR_adv h (by have := hd.1; omega)
  rw [m_X5_readsNumber_r, m_X5_readsNumber_z, m_X5_readsNumber_td, if_neg e1, if_neg e1, if_neg e1, if_pos n, if_pos n, if_pos n, PR_8 h]
  rcases hv with ⟨hv1, rfl, rfl⟩ | ⟨hv1, hv2, rfl, rfl⟩
  · by_cases c : t a - nI 48 ≤ 0
    · rw [if_pos c, if_pos c, if_pos c]; exact ⟨by decide +kernel, rfl, rfl⟩
    · rcases hv1 with hv1 | hv1
      · exact absurd hv1 c
      · have e3 := id_no hp hv1
        rw [if_neg c, if_neg c, if_neg c, if_pos e3, if_pos e3, if_pos e3]; exact ⟨by decide +kernel, rfl, rfl⟩
  · have e3 := id_yes hp hv2
    rw [if_neg hv1, if_neg hv1, if_neg hv1, if_neg e3, if_neg e3, if_neg e3, k_asub]; exact ⟨by decide +kernel, rfl, rfl⟩
