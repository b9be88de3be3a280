/-- how many men, houses, ships the town has -/
def TS (men inns fleet : Nat) (m : AMem) : Prop := m 8 0 = nI men ∧ m 8 1 = nI inns ∧ m 8 2 = nI fleet ∧ men ≤ 8 ∧ inns ≤ 8 ∧ fleet ≤ 6
section CLS
variable {S : AScr} {f : Nat} {m : AMem} {Rt : Option Value → AMem → Prop} {men inns fleet : Nat}
theorem i_toI (k : Nat) (hk : k < 2147483648) : (nI k).toInt = (k : Int) := nI_toInt hk
theorem w4 (x : Int32) : x = nI 0 ∨ x = nI 1 ∨ x = nI 2 ∨ x = nI 3 ∨ (¬ x = nI 0 ∧ ¬ x = nI 1 ∧ ¬ x = nI 2 ∧ ¬ x = nI 3 ∧ (x.toInt < 0 ∨ 3 < x.toInt)) := by
  by_cases h0 : x = nI 0; exact Or.inl h0
  by_cases h1 : x = nI 1; exact Or.inr (Or.inl h1)
  by_cases h2 : x = nI 2; exact Or.inr (Or.inr (Or.inl h2))
  by_cases h3 : x = nI 3; exact Or.inr (Or.inr (Or.inr (Or.inl h3)))
  refine Or.inr (Or.inr (Or.inr (Or.inr ⟨h0, h1, h2, h3, ?_⟩)))
  rw [← Int32.toInt_inj, i_toI _ (by decide)] at h0 h1 h2 h3
  omega
theorem w5 (x : Int32) : x = nI 0 ∨ x = nI 1 ∨ x = nI 2 ∨ x = nI 3 ∨ x = nI 4 ∨ (¬ x = nI 0 ∧ ¬ x = nI 1 ∧ ¬ x = nI 2 ∧ ¬ x = nI 3 ∧ ¬ x = nI 4 ∧ (x.toInt < 0 ∨ 4 < x.toInt)) := by
  by_cases h0 : x = nI 0; exact Or.inl h0
  by_cases h1 : x = nI 1; exact Or.inr (Or.inl h1)
  by_cases h2 : x = nI 2; exact Or.inr (Or.inr (Or.inl h2))
  by_cases h3 : x = nI 3; exact Or.inr (Or.inr (Or.inr (Or.inl h3)))
  by_cases h4 : x = nI 4; exact Or.inr (Or.inr (Or.inr (Or.inr (Or.inl h4))))
  refine Or.inr (Or.inr (Or.inr (Or.inr (Or.inr ⟨h0, h1, h2, h3, h4, ?_⟩))))
  rw [← Int32.toInt_inj, i_toI _ (by decide)] at h0 h1 h2 h3 h4
  omega
theorem s_isMan (h : TS men inns fleet m) {x : Int32} : T S (f + 2) 39 0 [some (.ref 0), some (.int x)] [] m Rt = Rt (some (.int (b01 (nI 0 ≤ x ∧ x < nI men)))) m := by
  simp only [u39_0, u39_1, u39_2, u39_5, u39_8, u39_11, s_isOneOf, pu_some, pu_none, nar_b01, true_and, h.1]
theorem s_isInn (h : TS men inns fleet m) {x : Int32} : T S (f + 2) 41 0 [some (.ref 0), some (.int x)] [] m Rt = Rt (some (.int (b01 (nI 0 ≤ x ∧ x < nI inns)))) m := by
  simp only [u41_0, u41_1, u41_2, u41_5, u41_8, u41_11, s_isOneOf, pu_some, pu_none, nar_b01, true_and, h.2.1]
theorem s_isShip (h : TS men inns fleet m) {x : Int32} : T S (f + 2) 43 0 [some (.ref 0), some (.int x)] [] m Rt = Rt (some (.int (b01 (nI 0 ≤ x ∧ x < nI fleet)))) m := by
  simp only [u43_0, u43_1, u43_2, u43_5, u43_8, u43_11, s_isOneOf, pu_some, pu_none, nar_b01, true_and, h.2.2.1]
def sailorM (n : Nat) (x w : Int32) (m : AMem) : Int32 := if nI 0 ≤ x ∧ x < nI n then (if w = nI 0 then m 9 x.toNatClampNeg else if w = nI 1 then m 10 x.toNatClampNeg else if w = nI 2 then m 11 x.toNatClampNeg else if w = nI 3 then m 12 x.toNatClampNeg else -2) else -2
theorem s_sailor (h : TS men inns fleet m) {x w : Int32} : T S (f + 3) 38 0 [some (.ref 0), some (.int x), some (.int w)] [] m Rt = Rt (some (.int (sailorM men x w m))) m := by
  unfold sailorM
  have hb := h.2.2.2.1
  by_cases hx : nI 0 ≤ x ∧ x < nI men
  · obtain ⟨k, hk, rfl⟩ := P_nI hx (by omega)
    rw [if_pos hx]
    rcases w4 w with rfl | rfl | rfl | rfl | ⟨h0, h1, h2, h3, h4⟩
    · simp (disch := omega) only [u38_0, u38_1, u38_2, u38_5, u38_8, u38_10, u38_11, u38_12, u38_12v1, u38_12v2, u38_12v3, u38_12v4, u38_44, u38_45, u38_48, u38_51, u38_52, u38_53, u38_54, u38_55, u38_58, u38_61, u38_62, u38_63, u38_64, u38_65, u38_68, u38_71, u38_72, u38_73, u38_74, u38_75, u38_78, u38_81, u38_82, u38_83, u38_84, u38_86, s_isMan h, pu_some, pu_none, b01_e0, hx, and_self, not_true, if_false, inB8, nI_cl8, true_and, if_true, show ¬ nI 0 = nI 1 by decide, show ¬ nI 0 = nI 2 by decide, show ¬ nI 0 = nI 3 by decide]
    · simp (disch := omega) only [u38_0, u38_1, u38_2, u38_5, u38_8, u38_10, u38_11, u38_12, u38_12v1, u38_12v2, u38_12v3, u38_12v4, u38_44, u38_45, u38_48, u38_51, u38_52, u38_53, u38_54, u38_55, u38_58, u38_61, u38_62, u38_63, u38_64, u38_65, u38_68, u38_71, u38_72, u38_73, u38_74, u38_75, u38_78, u38_81, u38_82, u38_83, u38_84, u38_86, s_isMan h, pu_some, pu_none, b01_e0, hx, and_self, not_true, if_false, inB8, nI_cl8, true_and, if_true, show ¬ nI 1 = nI 0 by decide, show ¬ nI 1 = nI 2 by decide, show ¬ nI 1 = nI 3 by decide]
    · simp (disch := omega) only [u38_0, u38_1, u38_2, u38_5, u38_8, u38_10, u38_11, u38_12, u38_12v1, u38_12v2, u38_12v3, u38_12v4, u38_44, u38_45, u38_48, u38_51, u38_52, u38_53, u38_54, u38_55, u38_58, u38_61, u38_62, u38_63, u38_64, u38_65, u38_68, u38_71, u38_72, u38_73, u38_74, u38_75, u38_78, u38_81, u38_82, u38_83, u38_84, u38_86, s_isMan h, pu_some, pu_none, b01_e0, hx, and_self, not_true, if_false, inB8, nI_cl8, true_and, if_true, show ¬ nI 2 = nI 0 by decide, show ¬ nI 2 = nI 1 by decide, show ¬ nI 2 = nI 3 by decide]
    · simp (disch := omega) only [u38_0, u38_1, u38_2, u38_5, u38_8, u38_10, u38_11, u38_12, u38_12v1, u38_12v2, u38_12v3, u38_12v4, u38_44, u38_45, u38_48, u38_51, u38_52, u38_53, u38_54, u38_55, u38_58, u38_61, u38_62, u38_63, u38_64, u38_65, u38_68, u38_71, u38_72, u38_73, u38_74, u38_75, u38_78, u38_81, u38_82, u38_83, u38_84, u38_86, s_isMan h, pu_some, pu_none, b01_e0, hx, and_self, not_true, if_false, inB8, nI_cl8, true_and, if_true, show ¬ nI 3 = nI 0 by decide, show ¬ nI 3 = nI 1 by decide, show ¬ nI 3 = nI 2 by decide]
    · simp (disch := exact h4) only [u38_0, u38_1, u38_2, u38_5, u38_8, u38_10, u38_11, u38_12, u38_12v1, u38_12v2, u38_12v3, u38_12v4, u38_44, u38_45, u38_48, u38_51, u38_52, u38_53, u38_54, u38_55, u38_58, u38_61, u38_62, u38_63, u38_64, u38_65, u38_68, u38_71, u38_72, u38_73, u38_74, u38_75, u38_78, u38_81, u38_82, u38_83, u38_84, u38_86, s_isMan h, pu_some, pu_none, b01_e0, hx, and_self, not_true, if_false, h0, h1, h2, h3]
  · rw [if_neg hx]
    simp only [u38_0, u38_1, u38_2, u38_5, u38_8, u38_10, u38_11, u38_12, u38_12v1, u38_12v2, u38_12v3, u38_12v4, u38_44, u38_45, u38_48, u38_51, u38_52, u38_53, u38_54, u38_55, u38_58, u38_61, u38_62, u38_63, u38_64, u38_65, u38_68, u38_71, u38_72, u38_73, u38_74, u38_75, u38_78, u38_81, u38_82, u38_83, u38_84, u38_86, s_isMan h, pu_some, pu_none, b01_e0, hx, not_false_iff, if_true]
def shipM (n : Nat) (x w : Int32) (m : AMem) : Int32 := if nI 0 ≤ x ∧ x < nI n then (if w = nI 0 then m 15 x.toNatClampNeg else if w = nI 1 then m 16 x.toNatClampNeg else if w = nI 2 then m 17 x.toNatClampNeg else if w = nI 3 then m 18 x.toNatClampNeg else -2) else -2
theorem s_ship (h : TS men inns fleet m) {x w : Int32} : T S (f + 3) 42 0 [some (.ref 0), some (.int x), some (.int w)] [] m Rt = Rt (some (.int (shipM fleet x w m))) m := by
  unfold shipM
  have hb := h.2.2.2.2.2
  by_cases hx : nI 0 ≤ x ∧ x < nI fleet
  · obtain ⟨k, hk, rfl⟩ := P_nI hx (by omega)
    rw [if_pos hx]
    rcases w4 w with rfl | rfl | rfl | rfl | ⟨h0, h1, h2, h3, h4⟩
    · simp (disch := omega) only [u42_0, u42_1, u42_2, u42_5, u42_8, u42_10, u42_11, u42_12, u42_12v1, u42_12v2, u42_12v3, u42_12v4, u42_44, u42_45, u42_48, u42_51, u42_52, u42_53, u42_54, u42_55, u42_58, u42_61, u42_62, u42_63, u42_64, u42_65, u42_68, u42_71, u42_72, u42_73, u42_74, u42_75, u42_78, u42_81, u42_82, u42_83, u42_84, u42_86, s_isShip h, pu_some, pu_none, b01_e0, hx, and_self, not_true, if_false, inB8, nI_cl8, true_and, if_true, show ¬ nI 0 = nI 1 by decide, show ¬ nI 0 = nI 2 by decide, show ¬ nI 0 = nI 3 by decide]
    · simp (disch := omega) only [u42_0, u42_1, u42_2, u42_5, u42_8, u42_10, u42_11, u42_12, u42_12v1, u42_12v2, u42_12v3, u42_12v4, u42_44, u42_45, u42_48, u42_51, u42_52, u42_53, u42_54, u42_55, u42_58, u42_61, u42_62, u42_63, u42_64, u42_65, u42_68, u42_71, u42_72, u42_73, u42_74, u42_75, u42_78, u42_81, u42_82, u42_83, u42_84, u42_86, s_isShip h, pu_some, pu_none, b01_e0, hx, and_self, not_true, if_false, inB8, nI_cl8, true_and, if_true, show ¬ nI 1 = nI 0 by decide, show ¬ nI 1 = nI 2 by decide, show ¬ nI 1 = nI 3 by decide]
    · simp (disch := omega) only [u42_0, u42_1, u42_2, u42_5, u42_8, u42_10, u42_11, u42_12, u42_12v1, u42_12v2, u42_12v3, u42_12v4, u42_44, u42_45, u42_48, u42_51, u42_52, u42_53, u42_54, u42_55, u42_58, u42_61, u42_62, u42_63, u42_64, u42_65, u42_68, u42_71, u42_72, u42_73, u42_74, u42_75, u42_78, u42_81, u42_82, u42_83, u42_84, u42_86, s_isShip h, pu_some, pu_none, b01_e0, hx, and_self, not_true, if_false, inB8, nI_cl8, true_and, if_true, show ¬ nI 2 = nI 0 by decide, show ¬ nI 2 = nI 1 by decide, show ¬ nI 2 = nI 3 by decide]
    · simp (disch := omega) only [u42_0, u42_1, u42_2, u42_5, u42_8, u42_10, u42_11, u42_12, u42_12v1, u42_12v2, u42_12v3, u42_12v4, u42_44, u42_45, u42_48, u42_51, u42_52, u42_53, u42_54, u42_55, u42_58, u42_61, u42_62, u42_63, u42_64, u42_65, u42_68, u42_71, u42_72, u42_73, u42_74, u42_75, u42_78, u42_81, u42_82, u42_83, u42_84, u42_86, s_isShip h, pu_some, pu_none, b01_e0, hx, and_self, not_true, if_false, inB8, nI_cl8, true_and, if_true, show ¬ nI 3 = nI 0 by decide, show ¬ nI 3 = nI 1 by decide, show ¬ nI 3 = nI 2 by decide]
    · simp (disch := exact h4) only [u42_0, u42_1, u42_2, u42_5, u42_8, u42_10, u42_11, u42_12, u42_12v1, u42_12v2, u42_12v3, u42_12v4, u42_44, u42_45, u42_48, u42_51, u42_52, u42_53, u42_54, u42_55, u42_58, u42_61, u42_62, u42_63, u42_64, u42_65, u42_68, u42_71, u42_72, u42_73, u42_74, u42_75, u42_78, u42_81, u42_82, u42_83, u42_84, u42_86, s_isShip h, pu_some, pu_none, b01_e0, hx, and_self, not_true, if_false, h0, h1, h2, h3]
  · rw [if_neg hx]
    simp only [u42_0, u42_1, u42_2, u42_5, u42_8, u42_10, u42_11, u42_12, u42_12v1, u42_12v2, u42_12v3, u42_12v4, u42_44, u42_45, u42_48, u42_51, u42_52, u42_53, u42_54, u42_55, u42_58, u42_61, u42_62, u42_63, u42_64, u42_65, u42_68, u42_71, u42_72, u42_73, u42_74, u42_75, u42_78, u42_81, u42_82, u42_83, u42_84, u42_86, s_isShip h, pu_some, pu_none, b01_e0, hx, not_false_iff, if_true]
def houseM (n : Nat) (x w : Int32) (m : AMem) : Int32 := if nI 0 ≤ x ∧ x < nI n then (if w = nI 0 then m 13 x.toNatClampNeg else if w = nI 1 then m 14 x.toNatClampNeg else -2) else -2
theorem s_house (h : TS men inns fleet m) {x w : Int32} : T S (f + 3) 40 0 [some (.ref 0), some (.int x), some (.int w)] [] m Rt = Rt (some (.int (houseM inns x w m))) m := by
  unfold houseM
  have hb := h.2.2.2.2.1
  by_cases hx : nI 0 ≤ x ∧ x < nI inns
  · obtain ⟨k, hk, rfl⟩ := P_nI hx (by omega)
    rw [if_pos hx]
    by_cases h0 : w = nI 0
    · subst h0
      simp (disch := omega) only [u40_0, u40_1, u40_2, u40_5, u40_8, u40_10, u40_11, u40_12, u40_12v1, u40_12v2, u40_40, u40_41, u40_44, u40_47, u40_48, u40_49, u40_50, u40_51, u40_54, u40_57, u40_58, u40_59, u40_60, u40_62, s_isInn h, pu_some, pu_none, b01_e0, hx, and_self, not_true, if_false, inB8, nI_cl8, true_and, if_true]
    · by_cases h1 : w = nI 1
      · subst h1
        simp (disch := omega) only [u40_0, u40_1, u40_2, u40_5, u40_8, u40_10, u40_11, u40_12, u40_12v1, u40_12v2, u40_40, u40_41, u40_44, u40_47, u40_48, u40_49, u40_50, u40_51, u40_54, u40_57, u40_58, u40_59, u40_60, u40_62, s_isInn h, pu_some, pu_none, b01_e0, hx, and_self, not_true, if_false, inB8, nI_cl8, true_and, if_true, show ¬ nI 1 = nI 0 by decide]
      · simp (disch := assumption) only [u40_0, u40_1, u40_2, u40_5, u40_8, u40_10, u40_11, u40_12, u40_12v1, u40_12v2, u40_40, u40_41, u40_44, u40_47, u40_48, u40_49, u40_50, u40_51, u40_54, u40_57, u40_58, u40_59, u40_60, u40_62, s_isInn h, pu_some, pu_none, b01_e0, hx, and_self, not_true, if_false, h0, h1]
  · rw [if_neg hx]
    simp only [u40_0, u40_1, u40_2, u40_5, u40_8, u40_10, u40_11, u40_12, u40_12v1, u40_12v2, u40_40, u40_41, u40_44, u40_47, u40_48, u40_49, u40_50, u40_51, u40_54, u40_57, u40_58, u40_59, u40_60, u40_62, s_isInn h, pu_some, pu_none, b01_e0, hx, not_false_iff, if_true]
theorem s_cap {x : Int32} : T S (f + 2) 44 0 [some (.ref 0), some (.int x), none] [] m Rt = if nI 0 ≤ x ∧ x < nI 10 then Rt (some (.int (m 8 3))) (forgM (up m 8 3 x)) else Rt (some (.int (-2))) m := by
  by_cases h1 : x < nI 0
  · have hn : ¬ nI 0 ≤ x := Int32.not_le.mpr h1
    simp only [u44_0, u44_1, u44_4, u44_5, u44_7, u44_10, u44_12, u44_13, u44_14, u44_17, u44_20, u44_21, u44_22, u44_25, u44_26, u44_29, u44_30, u44_33, u44_34, h1, if_true]
    simp [hn]
  · have hn : nI 0 ≤ x := Int32.not_lt.mp h1
    by_cases h2 : x < nI 10
    · simp only [u44_0, u44_1, u44_4, u44_5, u44_7, u44_10, u44_12, u44_13, u44_14, u44_17, u44_20, u44_21, u44_22, u44_25, u44_26, u44_29, u44_30, u44_33, u44_34, h1, h2, if_true, if_false, s_forget, pu_some, pu_none, hn, and_self]
    · simp only [u44_0, u44_1, u44_4, u44_5, u44_7, u44_10, u44_12, u44_13, u44_14, u44_17, u44_20, u44_21, u44_22, u44_25, u44_26, u44_29, u44_30, u44_33, u44_34, h1, h2, if_true, if_false, and_false]
/-- the month as it is told, run if it isn't known -/
def monM (men fleet : Nat) (m : AMem) : AMem := if m 0 9 = nI 0 then up (runM 30 8 men fleet m) 0 9 (nI 1) else m
theorem s_month (h : TS men inns fleet m) : T S (f + 5) 47 0 [some (.ref 0)] [] m Rt = Rt (some (.ref 30)) (monM men fleet m) := by
  unfold monM
  by_cases h0 : m 0 9 = nI 0
  · simp only [u47_0, u47_1, u47_4, u47_7, u47_8, u47_11, u47_14, u47_15, u47_16, u47_16v1, u47_19, u47_20, u47_23, h0, if_true, s_run (Or.inl ⟨rfl, rfl⟩) h.2.2.2.1 h.2.2.2.2.2 h.1 h.2.2.1, pu_some, pu_none]
  · simp only [u47_0, u47_1, u47_4, u47_7, u47_8, u47_11, u47_14, u47_15, u47_16, u47_16v1, u47_19, u47_20, u47_23, h0, if_false]
theorem monM_t {a j : Nat} (h1 : a < 30 ∨ 44 ≤ a) (h2 : a ≠ 0) : monM men fleet m a j = m a j := by
  unfold monM
  split
  · rw [up_ap, if_neg (by omega), runM_t (by omega)]
  · rfl
theorem TS_mon (h : TS men inns fleet m) : TS men inns fleet (monM men fleet m) := by
  unfold TS
  rw [monM_t (by omega) (by omega), monM_t (by omega) (by omega), monM_t (by omega) (by omega)]
  exact h
theorem s_owes (h : TS men inns fleet m) {d x : Int32} : T S (f + 6) 45 0 [some (.ref 0), some (.int d), some (.int x)] [] m Rt = if (nI 0 ≤ d ∧ d < nI 30) ∧ (nI 0 ≤ x ∧ x < nI men) then Rt (some (.int (monM men fleet m 40 (d.toNatClampNeg * 8 + x.toNatClampNeg)))) (monM men fleet m) else Rt (some (.int (-2))) m := by
  have hb := h.2.2.2.1
  by_cases hd : nI 0 ≤ d ∧ d < nI 30
  · by_cases hx : nI 0 ≤ x ∧ x < nI men
    · obtain ⟨k, hk, rfl⟩ := P_nI hx (by omega)
      obtain ⟨y, hy, rfl⟩ := P_nI hd (by omega)
      simp (disch := omega) only [u45_0, u45_1, u45_4, u45_7, u45_8, u45_9, u45_12, u45_15, u45_17, u45_18, u45_19, u45_22, u45_25, u45_26, u45_28, u45_29, u45_30, u45_31, u45_32, s_isDay, s_isMan h, pu_some, pu_none, b01_e0, hd, hx, and_self, not_true, if_false, if_true, s_month h, nI_mul8, nI_add, inB8, nI_cl8, true_and]
    · simp only [u45_0, u45_1, u45_4, u45_7, u45_8, u45_9, u45_12, u45_15, u45_17, u45_18, u45_19, u45_22, u45_25, u45_26, u45_28, u45_29, u45_30, u45_31, u45_32, s_isDay, s_isMan h, pu_some, pu_none, b01_e0, hd, hx, and_self, and_false, not_true, not_false_iff, if_false, if_true]
  · simp only [u45_0, u45_1, u45_4, u45_7, u45_8, u45_9, u45_12, u45_15, u45_17, u45_18, u45_19, u45_22, u45_25, u45_26, u45_28, u45_29, u45_30, u45_31, u45_32, s_isDay, pu_some, pu_none, b01_e0, hd, false_and, not_false_iff, if_true, if_false]
theorem s_purse (h : TS men inns fleet m) {d x : Int32} : T S (f + 6) 48 0 [some (.ref 0), some (.int d), some (.int x)] [] m Rt = if (nI 0 ≤ d ∧ d < nI 30) ∧ (nI 0 ≤ x ∧ x < nI men) then Rt (some (.int (monM men fleet m 41 (d.toNatClampNeg * 8 + x.toNatClampNeg)))) (monM men fleet m) else Rt (some (.int (-2))) m := by
  have hb := h.2.2.2.1
  by_cases hd : nI 0 ≤ d ∧ d < nI 30
  · by_cases hx : nI 0 ≤ x ∧ x < nI men
    · obtain ⟨k, hk, rfl⟩ := P_nI hx (by omega)
      obtain ⟨y, hy, rfl⟩ := P_nI hd (by omega)
      simp (disch := omega) only [u48_0, u48_1, u48_4, u48_7, u48_8, u48_9, u48_12, u48_15, u48_17, u48_18, u48_19, u48_22, u48_25, u48_26, u48_28, u48_29, u48_30, u48_31, u48_32, s_isDay, s_isMan h, pu_some, pu_none, b01_e0, hd, hx, and_self, not_true, if_false, if_true, s_month h, nI_mul8, nI_add, inB8, nI_cl8, true_and]
    · simp only [u48_0, u48_1, u48_4, u48_7, u48_8, u48_9, u48_12, u48_15, u48_17, u48_18, u48_19, u48_22, u48_25, u48_26, u48_28, u48_29, u48_30, u48_31, u48_32, s_isDay, s_isMan h, pu_some, pu_none, b01_e0, hd, hx, and_self, and_false, not_true, not_false_iff, if_false, if_true]
  · simp only [u48_0, u48_1, u48_4, u48_7, u48_8, u48_9, u48_12, u48_15, u48_17, u48_18, u48_19, u48_22, u48_25, u48_26, u48_28, u48_29, u48_30, u48_31, u48_32, s_isDay, pu_some, pu_none, b01_e0, hd, false_and, not_false_iff, if_true, if_false]
theorem s_where (h : TS men inns fleet m) {d x : Int32} : T S (f + 6) 49 0 [some (.ref 0), some (.int d), some (.int x)] [] m Rt = if (nI 0 ≤ d ∧ d < nI 30) ∧ (nI 0 ≤ x ∧ x < nI men) then Rt (some (.int (monM men fleet m 42 (d.toNatClampNeg * 8 + x.toNatClampNeg)))) (monM men fleet m) else Rt (some (.int (-2))) m := by
  have hb := h.2.2.2.1
  by_cases hd : nI 0 ≤ d ∧ d < nI 30
  · by_cases hx : nI 0 ≤ x ∧ x < nI men
    · obtain ⟨k, hk, rfl⟩ := P_nI hx (by omega)
      obtain ⟨y, hy, rfl⟩ := P_nI hd (by omega)
      simp (disch := omega) only [u49_0, u49_1, u49_4, u49_7, u49_8, u49_9, u49_12, u49_15, u49_17, u49_18, u49_19, u49_22, u49_25, u49_26, u49_28, u49_29, u49_30, u49_31, u49_32, s_isDay, s_isMan h, pu_some, pu_none, b01_e0, hd, hx, and_self, not_true, if_false, if_true, s_month h, nI_mul8, nI_add, inB8, nI_cl8, true_and]
    · simp only [u49_0, u49_1, u49_4, u49_7, u49_8, u49_9, u49_12, u49_15, u49_17, u49_18, u49_19, u49_22, u49_25, u49_26, u49_28, u49_29, u49_30, u49_31, u49_32, s_isDay, s_isMan h, pu_some, pu_none, b01_e0, hd, hx, and_self, and_false, not_true, not_false_iff, if_false, if_true]
  · simp only [u49_0, u49_1, u49_4, u49_7, u49_8, u49_9, u49_12, u49_15, u49_17, u49_18, u49_19, u49_22, u49_25, u49_26, u49_28, u49_29, u49_30, u49_31, u49_32, s_isDay, pu_some, pu_none, b01_e0, hd, false_and, not_false_iff, if_true, if_false]
theorem s_takes (h : TS men inns fleet m) {d x w : Int32} : T S (f + 6) 50 0 [some (.ref 0), some (.int d), some (.int x), some (.int w)] [] m Rt = if (nI 0 ≤ d ∧ d < nI 30) ∧ (nI 0 ≤ x ∧ x < nI inns) then (if w = nI 0 then Rt (some (.int (monM men fleet m 43 (d.toNatClampNeg * 8 + x.toNatClampNeg)))) (monM men fleet m) else if w = nI 1 then Rt (some (.int (owedM d.toNatClampNeg x men (monM men fleet m)))) (monM men fleet m) else Rt (some (.int (-2))) m) else Rt (some (.int (-2))) m := by
  have hb := h.2.2.2.2.1
  have hm := TS_mon h
  by_cases hd : nI 0 ≤ d ∧ d < nI 30
  · by_cases hx : nI 0 ≤ x ∧ x < nI inns
    · obtain ⟨k, hk, rfl⟩ := P_nI hx (by omega)
      obtain ⟨y, hy, rfl⟩ := P_nI hd (by omega)
      rw [if_pos ⟨hd, hx⟩]
      by_cases h0 : w = nI 0
      · subst h0
        simp (disch := omega) only [u50_0, u50_1, u50_4, u50_7, u50_8, u50_9, u50_12, u50_15, u50_17, u50_18, u50_19, u50_19v1, u50_19v2, u50_44, u50_45, u50_48, u50_51, u50_52, u50_54, u50_55, u50_56, u50_57, u50_58, u50_59, u50_60, u50_63, u50_64, u50_65, u50_68, u50_69, u50_71, s_isDay, s_isInn h, pu_some, pu_none, b01_e0, hd, hx, and_self, not_true, if_false, if_true, s_month h, nI_mul8, nI_add, inB8, nI_cl8, true_and]
      · by_cases h1 : w = nI 1
        · subst h1
          simp (disch := omega) only [u50_0, u50_1, u50_4, u50_7, u50_8, u50_9, u50_12, u50_15, u50_17, u50_18, u50_19, u50_19v1, u50_19v2, u50_44, u50_45, u50_48, u50_51, u50_52, u50_54, u50_55, u50_56, u50_57, u50_58, u50_59, u50_60, u50_63, u50_64, u50_65, u50_68, u50_69, u50_71, s_isDay, s_isInn h, pu_some, pu_none, b01_e0, hd, hx, and_self, not_true, if_false, if_true, s_month h, s_owedTo hm.2.2.2.1 hy hm.1, nI_cl8, show ¬ nI 1 = nI 0 by decide]
        · simp (disch := assumption) only [u50_0, u50_1, u50_4, u50_7, u50_8, u50_9, u50_12, u50_15, u50_17, u50_18, u50_19, u50_19v1, u50_19v2, u50_44, u50_45, u50_48, u50_51, u50_52, u50_54, u50_55, u50_56, u50_57, u50_58, u50_59, u50_60, u50_63, u50_64, u50_65, u50_68, u50_69, u50_71, s_isDay, s_isInn h, pu_some, pu_none, b01_e0, hd, hx, and_self, not_true, if_false, h0, h1]
    · simp only [u50_0, u50_1, u50_4, u50_7, u50_8, u50_9, u50_12, u50_15, u50_17, u50_18, u50_19, u50_19v1, u50_19v2, u50_44, u50_45, u50_48, u50_51, u50_52, u50_54, u50_55, u50_56, u50_57, u50_58, u50_59, u50_60, u50_63, u50_64, u50_65, u50_68, u50_69, u50_71, s_isDay, s_isInn h, pu_some, pu_none, b01_e0, hd, hx, and_self, and_false, not_true, not_false_iff, if_false, if_true]
  · simp only [u50_0, u50_1, u50_4, u50_7, u50_8, u50_9, u50_12, u50_15, u50_17, u50_18, u50_19, u50_19v1, u50_19v2, u50_44, u50_45, u50_48, u50_51, u50_52, u50_54, u50_55, u50_56, u50_57, u50_58, u50_59, u50_60, u50_63, u50_64, u50_65, u50_68, u50_69, u50_71, s_isDay, pu_some, pu_none, b01_e0, hd, false_and, not_false_iff, if_true, if_false]
def crewM (men : Nat) (x w : Int32) (m : AMem) : Int32 := if w = nI 0 then m 37 x.toNatClampNeg else if w = nI 1 then m 38 x.toNatClampNeg else if w = nI 2 then m 39 x.toNatClampNeg else if w = nI 3 then soundM 30 8 x.toNatClampNeg men m else if w = nI 4 then m 16 x.toNatClampNeg - popM (m 39 x.toNatClampNeg) else -2
theorem s_crew (h : TS men inns fleet m) {x w : Int32} : T S (f + 6) 51 0 [some (.ref 0), some (.int x), some (.int w), none] [] m Rt = if nI 0 ≤ x ∧ x < nI fleet then Rt (some (.int (crewM men x w (monM men fleet m)))) (monM men fleet m) else Rt (some (.int (-2))) m := by
  have hb := h.2.2.2.2.2
  have hm := TS_mon h
  by_cases hx : nI 0 ≤ x ∧ x < nI fleet
  · obtain ⟨k, hk, rfl⟩ := P_nI hx (by omega)
    have hk6 : k < 6 := by omega
    rw [if_pos hx]
    unfold crewM
    rcases w5 w with rfl | rfl | rfl | rfl | rfl | ⟨h0, h1, h2, h3, h4, h5⟩
    · simp (disch := omega) only [u51_0, u51_1, u51_2, u51_5, u51_8, u51_10, u51_11, u51_12, u51_15, u51_16, u51_17, u51_17v1, u51_17v2, u51_17v3, u51_17v4, u51_17v5, u51_52, u51_53, u51_56, u51_57, u51_58, u51_59, u51_60, u51_63, u51_64, u51_65, u51_66, u51_67, u51_70, u51_71, u51_72, u51_73, u51_74, u51_75, u51_78, u51_79, u51_80, u51_83, u51_86, u51_87, u51_88, u51_89, u51_92, u51_93, u51_94, u51_97, u51_98, u51_99, u51_101, s_isShip h, pu_some, pu_none, b01_e0, hx, and_self, not_true, if_false, s_month h, inB8, nI_cl8, true_and, if_true, s_sound (Or.inl ⟨rfl, rfl⟩) hm.2.2.2.1 hk6 hm.1, s_pop, show ¬ nI 0 = nI 1 by decide, show ¬ nI 0 = nI 2 by decide, show ¬ nI 0 = nI 3 by decide, show ¬ nI 0 = nI 4 by decide]
    · simp (disch := omega) only [u51_0, u51_1, u51_2, u51_5, u51_8, u51_10, u51_11, u51_12, u51_15, u51_16, u51_17, u51_17v1, u51_17v2, u51_17v3, u51_17v4, u51_17v5, u51_52, u51_53, u51_56, u51_57, u51_58, u51_59, u51_60, u51_63, u51_64, u51_65, u51_66, u51_67, u51_70, u51_71, u51_72, u51_73, u51_74, u51_75, u51_78, u51_79, u51_80, u51_83, u51_86, u51_87, u51_88, u51_89, u51_92, u51_93, u51_94, u51_97, u51_98, u51_99, u51_101, s_isShip h, pu_some, pu_none, b01_e0, hx, and_self, not_true, if_false, s_month h, inB8, nI_cl8, true_and, if_true, s_sound (Or.inl ⟨rfl, rfl⟩) hm.2.2.2.1 hk6 hm.1, s_pop, show ¬ nI 1 = nI 0 by decide, show ¬ nI 1 = nI 2 by decide, show ¬ nI 1 = nI 3 by decide, show ¬ nI 1 = nI 4 by decide]
    · simp (disch := omega) only [u51_0, u51_1, u51_2, u51_5, u51_8, u51_10, u51_11, u51_12, u51_15, u51_16, u51_17, u51_17v1, u51_17v2, u51_17v3, u51_17v4, u51_17v5, u51_52, u51_53, u51_56, u51_57, u51_58, u51_59, u51_60, u51_63, u51_64, u51_65, u51_66, u51_67, u51_70, u51_71, u51_72, u51_73, u51_74, u51_75, u51_78, u51_79, u51_80, u51_83, u51_86, u51_87, u51_88, u51_89, u51_92, u51_93, u51_94, u51_97, u51_98, u51_99, u51_101, s_isShip h, pu_some, pu_none, b01_e0, hx, and_self, not_true, if_false, s_month h, inB8, nI_cl8, true_and, if_true, s_sound (Or.inl ⟨rfl, rfl⟩) hm.2.2.2.1 hk6 hm.1, s_pop, show ¬ nI 2 = nI 0 by decide, show ¬ nI 2 = nI 1 by decide, show ¬ nI 2 = nI 3 by decide, show ¬ nI 2 = nI 4 by decide]
    · simp (disch := omega) only [u51_0, u51_1, u51_2, u51_5, u51_8, u51_10, u51_11, u51_12, u51_15, u51_16, u51_17, u51_17v1, u51_17v2, u51_17v3, u51_17v4, u51_17v5, u51_52, u51_53, u51_56, u51_57, u51_58, u51_59, u51_60, u51_63, u51_64, u51_65, u51_66, u51_67, u51_70, u51_71, u51_72, u51_73, u51_74, u51_75, u51_78, u51_79, u51_80, u51_83, u51_86, u51_87, u51_88, u51_89, u51_92, u51_93, u51_94, u51_97, u51_98, u51_99, u51_101, s_isShip h, pu_some, pu_none, b01_e0, hx, and_self, not_true, if_false, s_month h, inB8, nI_cl8, true_and, if_true, s_sound (Or.inl ⟨rfl, rfl⟩) hm.2.2.2.1 hk6 hm.1, s_pop, show ¬ nI 3 = nI 0 by decide, show ¬ nI 3 = nI 1 by decide, show ¬ nI 3 = nI 2 by decide, show ¬ nI 3 = nI 4 by decide]
    · simp (disch := omega) only [u51_0, u51_1, u51_2, u51_5, u51_8, u51_10, u51_11, u51_12, u51_15, u51_16, u51_17, u51_17v1, u51_17v2, u51_17v3, u51_17v4, u51_17v5, u51_52, u51_53, u51_56, u51_57, u51_58, u51_59, u51_60, u51_63, u51_64, u51_65, u51_66, u51_67, u51_70, u51_71, u51_72, u51_73, u51_74, u51_75, u51_78, u51_79, u51_80, u51_83, u51_86, u51_87, u51_88, u51_89, u51_92, u51_93, u51_94, u51_97, u51_98, u51_99, u51_101, s_isShip h, pu_some, pu_none, b01_e0, hx, and_self, not_true, if_false, s_month h, inB8, nI_cl8, true_and, if_true, s_sound (Or.inl ⟨rfl, rfl⟩) hm.2.2.2.1 hk6 hm.1, s_pop, show ¬ nI 4 = nI 0 by decide, show ¬ nI 4 = nI 1 by decide, show ¬ nI 4 = nI 2 by decide, show ¬ nI 4 = nI 3 by decide]
    · simp (disch := exact h5) only [u51_0, u51_1, u51_2, u51_5, u51_8, u51_10, u51_11, u51_12, u51_15, u51_16, u51_17, u51_17v1, u51_17v2, u51_17v3, u51_17v4, u51_17v5, u51_52, u51_53, u51_56, u51_57, u51_58, u51_59, u51_60, u51_63, u51_64, u51_65, u51_66, u51_67, u51_70, u51_71, u51_72, u51_73, u51_74, u51_75, u51_78, u51_79, u51_80, u51_83, u51_86, u51_87, u51_88, u51_89, u51_92, u51_93, u51_94, u51_97, u51_98, u51_99, u51_101, s_isShip h, pu_some, pu_none, b01_e0, hx, and_self, not_true, if_false, s_month h, h0, h1, h2, h3, h4]
  · rw [if_neg hx]
    simp only [u51_0, u51_1, u51_2, u51_5, u51_8, u51_10, u51_11, u51_12, u51_15, u51_16, u51_17, u51_17v1, u51_17v2, u51_17v3, u51_17v4, u51_17v5, u51_52, u51_53, u51_56, u51_57, u51_58, u51_59, u51_60, u51_63, u51_64, u51_65, u51_66, u51_67, u51_70, u51_71, u51_72, u51_73, u51_74, u51_75, u51_78, u51_79, u51_80, u51_83, u51_86, u51_87, u51_88, u51_89, u51_92, u51_93, u51_94, u51_97, u51_98, u51_99, u51_101, s_isShip h, pu_some, pu_none, b01_e0, hx, not_false_iff, if_true]
/-- the house that takes most, of like ones the least -/
def richF (g : Nat → Int32) (inns : Nat) : Option Nat × Int32 := it inns (fun k (s : Option Nat × Int32) => if s.2 < g k then (some k, g k) else s) (none, -1)
theorem s_richest (h : TS men inns fleet m) {d : Int32} : T S (f + 6) 52 0 [some (.ref 0), some (.int d), none, none, none, none] [] m Rt = if nI 0 ≤ d ∧ d < nI 30 then Rt (some (.int (optI (richF (fun k => monM men fleet m 43 (d.toNatClampNeg * 8 + k)) inns).1))) (monM men fleet m) else Rt (some (.int (-2))) m := by
  have hb := h.2.2.2.2.1
  have hm := TS_mon h
  by_cases hd : nI 0 ≤ d ∧ d < nI 30
  · obtain ⟨y, hy, rfl⟩ := P_nI hd (by omega)
    rw [if_pos hd]
    have e := it_run (fun k (s : Option Nat × Int32) => T S (f + 6) 52 26 [some (.ref 0), some (.int (nI y)), some (.ref 43), some (.int (optI s.1)), some (.int s.2), some (.int (nI k))] [] (monM men fleet m) Rt) (fun k (s : Option Nat × Int32) => if s.2 < monM men fleet m 43 (y * 8 + k) then (some k, monM men fleet m 43 (y * 8 + k)) else s) (fun _ _ => True) inns (fun _ _ _ _ => trivial) (fun k hk s _ => by
      have hkm : ¬ inns ≤ k := by omega
      have hB : inB (nI (y * 8 + k)) 240 = true := inB8 (by omega) (by decide)
      refine u52_26.trans ?_
      by_cases q : s.2 < monM men fleet m 43 (y * 8 + k)
      · simp (disch := omega) only [u52_0, u52_1, u52_4, u52_7, u52_9, u52_10, u52_11, u52_14, u52_17, u52_18, u52_19, u52_20, u52_21, u52_23, u52_24, u52_28, u52_29, u52_32, u52_35, u52_38, u52_39, u52_40, u52_42, u52_43, u52_45, u52_46, u52_47, u52_49, u52_52, u52_54, u52_55, u52_56, u52_57, u52_59, u52_60, u52_62, u52_63, u52_64, u52_66, u52_69, u52_72, u52_73, hm.2.1, nI_le8, hkm, if_false, nI_mul8, nI_add, hB, nI_cl8, true_and, le_n (monM men fleet m 43 (y * 8 + k)) s.2, q, not_true, if_true, optI_some]
      · simp (disch := omega) only [u52_0, u52_1, u52_4, u52_7, u52_9, u52_10, u52_11, u52_14, u52_17, u52_18, u52_19, u52_20, u52_21, u52_23, u52_24, u52_28, u52_29, u52_32, u52_35, u52_38, u52_39, u52_40, u52_42, u52_43, u52_45, u52_46, u52_47, u52_49, u52_52, u52_54, u52_55, u52_56, u52_57, u52_59, u52_60, u52_62, u52_63, u52_64, u52_66, u52_69, u52_72, u52_73, hm.2.1, nI_le8, hkm, if_false, nI_mul8, nI_add, hB, nI_cl8, true_and, le_n (monM men fleet m 43 (y * 8 + k)) s.2, q, not_false_iff, if_true]) (none, -1) trivial
    refine Eq.trans ?_ (e.trans ?_)
    · simp only [u52_0, u52_1, u52_4, u52_7, u52_9, u52_10, u52_11, u52_14, u52_17, u52_18, u52_19, u52_20, u52_21, u52_23, u52_24, u52_28, u52_29, u52_32, u52_35, u52_38, u52_39, u52_40, u52_42, u52_43, u52_45, u52_46, u52_47, u52_49, u52_52, u52_54, u52_55, u52_56, u52_57, u52_59, u52_60, u52_62, u52_63, u52_64, u52_66, u52_69, u52_72, u52_73, s_isDay, pu_some, pu_none, b01_e0, hd, and_self, not_true, if_false, s_month h, optI_none]
    · refine u52_26.trans ?_
      simp (disch := omega) only [u52_0, u52_1, u52_4, u52_7, u52_9, u52_10, u52_11, u52_14, u52_17, u52_18, u52_19, u52_20, u52_21, u52_23, u52_24, u52_28, u52_29, u52_32, u52_35, u52_38, u52_39, u52_40, u52_42, u52_43, u52_45, u52_46, u52_47, u52_49, u52_52, u52_54, u52_55, u52_56, u52_57, u52_59, u52_60, u52_62, u52_63, u52_64, u52_66, u52_69, u52_72, u52_73, hm.2.1, nI_le8, Nat.le_refl, if_true, nI_cl8]
      rfl
  · simp only [u52_0, u52_1, u52_4, u52_7, u52_9, u52_10, u52_11, u52_14, u52_17, u52_18, u52_19, u52_20, u52_21, u52_23, u52_24, u52_28, u52_29, u52_32, u52_35, u52_38, u52_39, u52_40, u52_42, u52_43, u52_45, u52_46, u52_47, u52_49, u52_52, u52_54, u52_55, u52_56, u52_57, u52_59, u52_60, u52_62, u52_63, u52_64, u52_66, u52_69, u52_72, u52_73, s_isDay, pu_some, pu_none, b01_e0, hd, not_false_iff, if_true, if_false]
theorem s_last (h : TS men inns fleet m) : T S (f + 6) 53 0 [some (.ref 0)] [] m Rt = Rt (some (.int (monM men fleet m 30 14))) (monM men fleet m) := by
  simp only [u53_0, u53_1, u53_4, u53_7, s_month h, pu_some, pu_none]
end CLS
