section SHEETS
variable {S : AScr} {f : Nat} {m : AMem} {Rt : Option Value → AMem → Prop} {men inns fleet : Nat}
theorem s_sheetB {x fo n : Int32} (h : ¬ (nI 0 ≤ x ∧ x < nI 4)) : T S (f + 3) 73 0 [some (.ref 0), some (.int x), some (.int fo), some (.int n)] [] m Rt = Rt (some (.int (-2))) m := by
  simp only [u73_0, u73_1, u73_2, u73_5, u73_22, u73_24, s_isOneOf, pu_some, pu_none, b01_e0, h, not_false_iff, if_true]
theorem s_loseB {x : Int32} (h : ¬ (nI 0 ≤ x ∧ x < nI 4)) : T S (f + 3) 74 0 [some (.ref 0), some (.int x)] [] m Rt = Rt (some (.int (-2))) m := by
  simp only [u74_0, u74_1, u74_2, u74_5, u74_8, u74_10, s_isOneOf, pu_some, pu_none, b01_e0, h, not_false_iff, if_true]
theorem s_refB {x fo i : Int32} (h : ¬ (nI 0 ≤ x ∧ x < nI 4)) : T S (f + 3) 76 0 [some (.ref 0), some (.int x), some (.int fo), some (.int i)] [] m Rt = Rt (some (.int (-2))) m := by
  simp only [u76_0, u76_1, u76_2, u76_5, u76_16, u76_18, s_isOneOf, pu_some, pu_none, b01_e0, h, not_false_iff, if_true]
theorem s_putB {x fo i v : Int32} (h : ¬ (nI 0 ≤ x ∧ x < nI 4)) : T S (f + 4) 75 0 [some (.ref 0), some (.int x), some (.int fo), some (.int i), some (.int v), none] [] m Rt = Rt (some (.int (-2))) m := by
  simp only [u75_0, u75_1, u75_2, u75_3, u75_4, u75_7, u75_9, u75_11, u75_14, u75_16, s_refB h, pu_some, pu_none, show ¬ (-2 : Int32) = nI 0 by decide, if_false]
theorem s_getB {x fo i : Int32} (h : ¬ (nI 0 ≤ x ∧ x < nI 4)) : T S (f + 4) 77 0 [some (.ref 0), some (.int x), some (.int fo), some (.int i)] [] m Rt = Rt (some (.int (-2147483648))) m := by
  simp only [u77_0, u77_1, u77_2, u77_3, u77_4, u77_7, u77_24, u77_27, s_refB h, pu_some, pu_none, show ¬ (-2 : Int32) = nI 0 by decide, if_false]
theorem s_copyB {x i y j n : Int32} (h : ¬ ((nI 0 ≤ x ∧ x < nI 4) ∧ (nI 0 ≤ y ∧ y < nI 4))) : T S (f + 3) 78 0 [some (.ref 0), some (.int x), some (.int i), some (.int y), some (.int j), some (.int n), none, none] [] m Rt = Rt (some (.int (-2))) m := by
  by_cases h1 : nI 0 ≤ x ∧ x < nI 4
  · have h2 : ¬ (nI 0 ≤ y ∧ y < nI 4) := fun z => h ⟨h1, z⟩
    simp only [u78_0, u78_1, u78_2, u78_5, u78_8, u78_9, u78_10, u78_13, u78_16, u78_18, s_isOneOf, pu_some, pu_none, b01_e0, h1, h2, and_self, not_true, if_false, not_false_iff, if_true]
  · simp only [u78_0, u78_1, u78_2, u78_5, u78_8, u78_9, u78_10, u78_13, u78_16, u78_18, s_isOneOf, pu_some, pu_none, b01_e0, h1, not_false_iff, if_true]
theorem s_writeB {d x : Int32} (h : ¬ ((nI 0 ≤ d ∧ d < nI 30) ∧ (nI 0 ≤ x ∧ x < nI 4))) : T S (f + 6) 79 0 [some (.ref 0), some (.int d), some (.int x), none, none, none] [] m Rt = Rt (some (.int (-2))) m := by
  by_cases h1 : nI 0 ≤ d ∧ d < nI 30
  · have h2 : ¬ (nI 0 ≤ x ∧ x < nI 4) := fun z => h ⟨h1, z⟩
    simp only [u79_0, u79_1, u79_4, u79_7, u79_8, u79_9, u79_12, u79_15, u79_17, s_isDay, s_isOneOf, pu_some, pu_none, b01_e0, h1, h2, and_self, not_true, if_false, not_false_iff, if_true]
  · simp only [u79_0, u79_1, u79_4, u79_7, u79_8, u79_9, u79_12, u79_15, u79_17, s_isDay, s_isOneOf, pu_some, pu_none, b01_e0, h1, not_false_iff, if_true]
/-- a sheet of n items -/
def Sh (s n : Nat) (m : AMem) : Prop := m (65 + s) 2 = nI n ∧ n ≤ 60
def refV (s : Nat) (fo i : Int32) (m : AMem) : Int32 := if nI 0 ≤ fo ∧ fo < nI 3 then (if m (65 + s) 1 = -1 then -10 - nI 1 else if m (65 + s) 1 = fo then (if nI 0 ≤ i ∧ i < m (65 + s) 2 then nI 0 else -10 - nI 2) else -10 - nI 3) else -2
def refW (s : Nat) (fo i : Int32) (m : AMem) : AMem := if nI 0 ≤ fo ∧ fo < nI 3 then (if m (65 + s) 1 = -1 then up m 0 11 (nI 1) else if m (65 + s) 1 = fo then (if nI 0 ≤ i ∧ i < m (65 + s) 2 then m else up m 0 11 (nI 2)) else up m 0 11 (nI 3)) else m
theorem ref_0 {s : Nat} {fo i : Int32} (h : refV s fo i m = nI 0) : refW s fo i m = m ∧ nI 0 ≤ i ∧ i < m (65 + s) 2 := by
  unfold refV at h
  unfold refW
  by_cases q1 : nI 0 ≤ fo ∧ fo < nI 3
  · by_cases q2 : m (65 + s) 1 = -1
    · rw [if_pos q1, if_pos q2] at h
      exact absurd h (by decide)
    · by_cases q3 : m (65 + s) 1 = fo
      · by_cases q4 : nI 0 ≤ i ∧ i < m (65 + s) 2
        · rw [if_pos q1, if_neg q2, if_pos q3, if_pos q4]
          exact ⟨rfl, q4⟩
        · rw [if_pos q1, if_neg q2, if_pos q3, if_neg q4] at h
          exact absurd h (by decide)
      · rw [if_pos q1, if_neg q2, if_neg q3] at h
        exact absurd h (by decide)
  · rw [if_neg q1] at h
    exact absurd h (by decide)
theorem hold_le {z : Nat} {i n : Int32} (hz : z ≤ 60) (h1 : ¬ i < nI 0) (h2 : ¬ n < nI 0) (h3 : ¬ nI z - n < i) : i.toNatClampNeg + n.toNatClampNeg ≤ 60 := by
  obtain ⟨a, ha, rfl⟩ := nI_of h1
  obtain ⟨b, hb, rfl⟩ := nI_of h2
  rw [nI_cl ha, nI_cl hb]
  have e : (nI z - nI b).toInt = (z : Int) - (b : Int) := by
    rw [Int32.toInt_sub, nI_toI (by omega), nI_toI hb, Int.bmod_def]
    omega
  rw [fa2_lt, e, nI_toI ha] at h3
  omega
def copyV (s t : Nat) (i j n : Int32) (m : AMem) : Int32 := if m (65 + s) 1 = -1 ∨ m (65 + t) 1 = -1 then -10 - nI 1 else if m (65 + s) 1 = m (65 + t) 1 then (if (¬ i < nI 0 ∧ ¬ n < nI 0 ∧ ¬ m (65 + s) 2 - n < i) ∧ (¬ j < nI 0 ∧ ¬ n < nI 0 ∧ ¬ m (65 + t) 2 - n < j) then nI 1 else -10 - nI 2) else -10 - nI 4
def copyW (s t : Nat) (i j n : Int32) (m : AMem) : AMem := if m (65 + s) 1 = -1 ∨ m (65 + t) 1 = -1 then up m 0 11 (nI 1) else if m (65 + s) 1 = m (65 + t) 1 then (if (¬ i < nI 0 ∧ ¬ n < nI 0 ∧ ¬ m (65 + s) 2 - n < i) ∧ (¬ j < nI 0 ∧ ¬ n < nI 0 ∧ ¬ m (65 + t) 2 - n < j) then upA m (69 + t) (va_cpy (m (69 + s)) (m (69 + t)) i.toNatClampNeg j.toNatClampNeg n.toNatClampNeg) else up m 0 11 (nI 2)) else up m 0 11 (nI 4)
def writeF (men fleet s d k : Nat) (m : AMem) : AMem := setM s (nI k) (monM men fleet m 40 (d * 8 + k)) (monM men fleet m)
def minN (a b : Nat) : Nat := if a ≤ b then a else b
theorem TS_set {s : Nat} {i v : Int32} (h : TS men inns fleet m) : TS men inns fleet (setM s i v m) := by
  unfold setM
  split
  · unfold TS
    rw [up_row (by omega)]
    exact h
  · exact h
theorem TS_writeF {s d k : Nat} (h : TS men inns fleet m) : TS men inns fleet (writeF men fleet s d k m) := TS_set (TS_mon h)
theorem s_sheet0 {fo n : Int32} : T S (f + 3) 73 0 [some (.ref 0), some (.int (nI 0)), some (.int fo), some (.int n)] [] m Rt = if (nI 0 ≤ fo ∧ fo < nI 3) ∧ n ≤ nI 60 then (if n < nI 0 then Rt (some (.int (-10 - nI 5))) (up m 0 11 (nI 5)) else Rt (some (.int n)) (renewM 0 fo n m)) else Rt (some (.int (-2))) m := by
  by_cases q1 : nI 0 ≤ fo ∧ fo < nI 3
  · by_cases q2 : n ≤ nI 60
    · by_cases q3 : n < nI 0
      · simp only [u73_0, u73_1, u73_2, u73_5, u73_8, u73_9, u73_10, u73_13, u73_16, u73_17, u73_19, u73_22, u73_24, u73_25, u73_26, u73_29, u73_30, u73_31, u73_34, u73_35, u73_36, u73_39, u73_40, u73_40v1, u73_40v2, u73_40v3, u73_41, u73_42, u73_43, u73_43v1, u73_43v2, u73_43v3, u73_46, u73_47, s_isOneOf, pu_some, pu_none, b01_e0, show (nI 0 ≤ nI 0 ∧ nI 0 < nI 4) = True by decide, not_true, if_false, q1, and_self, q2, if_true, le_n (nI 0) n, q3, s_found]
      · simp only [u73_0, u73_1, u73_2, u73_5, u73_8, u73_9, u73_10, u73_13, u73_16, u73_17, u73_19, u73_22, u73_24, u73_25, u73_26, u73_29, u73_30, u73_31, u73_34, u73_35, u73_36, u73_39, u73_40, u73_40v1, u73_40v2, u73_40v3, u73_41, u73_42, u73_43, u73_43v1, u73_43v2, u73_43v3, u73_46, u73_47, s_isOneOf, pu_some, pu_none, b01_e0, show (nI 0 ≤ nI 0 ∧ nI 0 < nI 4) = True by decide, not_true, if_false, q1, and_self, q2, if_true, le_n (nI 0) n, q3, not_false_iff, s_renew0]
    · simp only [u73_0, u73_1, u73_2, u73_5, u73_8, u73_9, u73_10, u73_13, u73_16, u73_17, u73_19, u73_22, u73_24, u73_25, u73_26, u73_29, u73_30, u73_31, u73_34, u73_35, u73_36, u73_39, u73_40, u73_40v1, u73_40v2, u73_40v3, u73_41, u73_42, u73_43, u73_43v1, u73_43v2, u73_43v3, u73_46, u73_47, s_isOneOf, pu_some, pu_none, b01_e0, show (nI 0 ≤ nI 0 ∧ nI 0 < nI 4) = True by decide, not_true, if_false, q1, and_self, q2, and_false]
  · simp only [u73_0, u73_1, u73_2, u73_5, u73_8, u73_9, u73_10, u73_13, u73_16, u73_17, u73_19, u73_22, u73_24, u73_25, u73_26, u73_29, u73_30, u73_31, u73_34, u73_35, u73_36, u73_39, u73_40, u73_40v1, u73_40v2, u73_40v3, u73_41, u73_42, u73_43, u73_43v1, u73_43v2, u73_43v3, u73_46, u73_47, s_isOneOf, pu_some, pu_none, b01_e0, show (nI 0 ≤ nI 0 ∧ nI 0 < nI 4) = True by decide, not_true, if_false, q1, not_false_iff, if_true, false_and]
theorem s_lose0 : T S (f + 3) 74 0 [some (.ref 0), some (.int (nI 0))] [] m Rt = if m 65 1 = -1 then Rt (some (.int (-10 - nI 1))) (up m 0 11 (nI 1)) else Rt (some (.int (m 65 2))) (up m 65 1 (-1)) := by
  by_cases q : m 65 1 = -1
  · simp only [u74_0, u74_1, u74_2, u74_5, u74_8, u74_10, u74_11, u74_12, u74_15, u74_16, u74_16v1, u74_16v2, u74_16v3, u74_17, u74_17v1, u74_17v2, u74_17v3, u74_20, u74_21, u74_24, u74_25, u74_26, u74_29, u74_30, u74_31, u74_34, u74_35, u74_35v1, u74_35v2, u74_35v3, u74_36, u74_37, u74_37v1, u74_37v2, u74_37v3, u74_40, u74_41, u74_44, u74_45, u74_45v1, u74_45v2, u74_45v3, u74_46, u74_46v1, u74_46v2, u74_46v3, u74_49, s_isOneOf, pu_some, pu_none, b01_e0, show (nI 0 ≤ nI 0 ∧ nI 0 < nI 4) = True by decide, not_true, if_false, q, if_true, s_found]
  · simp only [u74_0, u74_1, u74_2, u74_5, u74_8, u74_10, u74_11, u74_12, u74_15, u74_16, u74_16v1, u74_16v2, u74_16v3, u74_17, u74_17v1, u74_17v2, u74_17v3, u74_20, u74_21, u74_24, u74_25, u74_26, u74_29, u74_30, u74_31, u74_34, u74_35, u74_35v1, u74_35v2, u74_35v3, u74_36, u74_37, u74_37v1, u74_37v2, u74_37v3, u74_40, u74_41, u74_44, u74_45, u74_45v1, u74_45v2, u74_45v3, u74_46, u74_46v1, u74_46v2, u74_46v3, u74_49, s_isOneOf, pu_some, pu_none, b01_e0, show (nI 0 ≤ nI 0 ∧ nI 0 < nI 4) = True by decide, not_true, if_false, q, up_ap, upA_ap, Nat.reduceEqDiff, false_and, true_and, and_true, and_false, and_self, if_false, if_true]
theorem s_ref0 {fo i : Int32} : T S (f + 3) 76 0 [some (.ref 0), some (.int (nI 0)), some (.int fo), some (.int i)] [] m Rt = Rt (some (.int (refV 0 fo i m))) (refW 0 fo i m) := by
  unfold refV refW
  by_cases q1 : nI 0 ≤ fo ∧ fo < nI 3
  · by_cases q2 : m 65 1 = -1
    · simp only [u76_0, u76_1, u76_2, u76_5, u76_8, u76_9, u76_10, u76_13, u76_16, u76_18, u76_19, u76_20, u76_23, u76_24, u76_24v1, u76_24v2, u76_24v3, u76_25, u76_25v1, u76_25v2, u76_25v3, u76_28, u76_29, u76_32, u76_33, u76_34, u76_37, u76_38, u76_39, u76_42, u76_43, u76_43v1, u76_43v2, u76_43v3, u76_44, u76_44v1, u76_44v2, u76_44v3, u76_47, u76_48, u76_51, u76_52, u76_53, u76_56, u76_57, u76_58, u76_59, u76_62, u76_63, u76_63v1, u76_63v2, u76_63v3, u76_64, u76_64v1, u76_64v2, u76_64v3, u76_67, u76_70, u76_73, u76_74, u76_77, u76_78, u76_79, u76_82, s_isOneOf, pu_some, pu_none, b01_e0, show (nI 0 ≤ nI 0 ∧ nI 0 < nI 4) = True by decide, not_true, if_false, q1, and_self, q2, if_true, s_found]
    · by_cases q3 : m 65 1 = fo
      · have q5 : ¬ fo = -1 := fun z => q2 (q3.trans z)
        by_cases q4 : nI 0 ≤ i ∧ i < m 65 2
        · simp only [u76_0, u76_1, u76_2, u76_5, u76_8, u76_9, u76_10, u76_13, u76_16, u76_18, u76_19, u76_20, u76_23, u76_24, u76_24v1, u76_24v2, u76_24v3, u76_25, u76_25v1, u76_25v2, u76_25v3, u76_28, u76_29, u76_32, u76_33, u76_34, u76_37, u76_38, u76_39, u76_42, u76_43, u76_43v1, u76_43v2, u76_43v3, u76_44, u76_44v1, u76_44v2, u76_44v3, u76_47, u76_48, u76_51, u76_52, u76_53, u76_56, u76_57, u76_58, u76_59, u76_62, u76_63, u76_63v1, u76_63v2, u76_63v3, u76_64, u76_64v1, u76_64v2, u76_64v3, u76_67, u76_70, u76_73, u76_74, u76_77, u76_78, u76_79, u76_82, s_isOneOf, pu_some, pu_none, b01_e0, show (nI 0 ≤ nI 0 ∧ nI 0 < nI 4) = True by decide, not_true, if_false, q1, and_self, q2, q3, q5, q4, if_true, s_found]
        · simp only [u76_0, u76_1, u76_2, u76_5, u76_8, u76_9, u76_10, u76_13, u76_16, u76_18, u76_19, u76_20, u76_23, u76_24, u76_24v1, u76_24v2, u76_24v3, u76_25, u76_25v1, u76_25v2, u76_25v3, u76_28, u76_29, u76_32, u76_33, u76_34, u76_37, u76_38, u76_39, u76_42, u76_43, u76_43v1, u76_43v2, u76_43v3, u76_44, u76_44v1, u76_44v2, u76_44v3, u76_47, u76_48, u76_51, u76_52, u76_53, u76_56, u76_57, u76_58, u76_59, u76_62, u76_63, u76_63v1, u76_63v2, u76_63v3, u76_64, u76_64v1, u76_64v2, u76_64v3, u76_67, u76_70, u76_73, u76_74, u76_77, u76_78, u76_79, u76_82, s_isOneOf, pu_some, pu_none, b01_e0, show (nI 0 ≤ nI 0 ∧ nI 0 < nI 4) = True by decide, not_true, if_false, q1, and_self, q2, q3, q5, q4, not_false_iff, if_true, s_found]
      · simp only [u76_0, u76_1, u76_2, u76_5, u76_8, u76_9, u76_10, u76_13, u76_16, u76_18, u76_19, u76_20, u76_23, u76_24, u76_24v1, u76_24v2, u76_24v3, u76_25, u76_25v1, u76_25v2, u76_25v3, u76_28, u76_29, u76_32, u76_33, u76_34, u76_37, u76_38, u76_39, u76_42, u76_43, u76_43v1, u76_43v2, u76_43v3, u76_44, u76_44v1, u76_44v2, u76_44v3, u76_47, u76_48, u76_51, u76_52, u76_53, u76_56, u76_57, u76_58, u76_59, u76_62, u76_63, u76_63v1, u76_63v2, u76_63v3, u76_64, u76_64v1, u76_64v2, u76_64v3, u76_67, u76_70, u76_73, u76_74, u76_77, u76_78, u76_79, u76_82, s_isOneOf, pu_some, pu_none, b01_e0, show (nI 0 ≤ nI 0 ∧ nI 0 < nI 4) = True by decide, not_true, if_false, q1, and_self, q2, q3, if_true, s_found]
  · simp only [u76_0, u76_1, u76_2, u76_5, u76_8, u76_9, u76_10, u76_13, u76_16, u76_18, u76_19, u76_20, u76_23, u76_24, u76_24v1, u76_24v2, u76_24v3, u76_25, u76_25v1, u76_25v2, u76_25v3, u76_28, u76_29, u76_32, u76_33, u76_34, u76_37, u76_38, u76_39, u76_42, u76_43, u76_43v1, u76_43v2, u76_43v3, u76_44, u76_44v1, u76_44v2, u76_44v3, u76_47, u76_48, u76_51, u76_52, u76_53, u76_56, u76_57, u76_58, u76_59, u76_62, u76_63, u76_63v1, u76_63v2, u76_63v3, u76_64, u76_64v1, u76_64v2, u76_64v3, u76_67, u76_70, u76_73, u76_74, u76_77, u76_78, u76_79, u76_82, s_isOneOf, pu_some, pu_none, b01_e0, show (nI 0 ≤ nI 0 ∧ nI 0 < nI 4) = True by decide, not_true, if_false, q1, not_false_iff, if_true]
theorem s_put0 {fo i v : Int32} : T S (f + 4) 75 0 [some (.ref 0), some (.int (nI 0)), some (.int fo), some (.int i), some (.int v), none] [] m Rt = if refV 0 fo i m = nI 0 then Rt (some (.int (nI 1))) (setM 0 i v m) else Rt (some (.int (refV 0 fo i m))) (refW 0 fo i m) := by
  by_cases q : refV 0 fo i m = nI 0
  · simp only [u75_0, u75_1, u75_2, u75_3, u75_4, u75_7, u75_9, u75_11, u75_14, u75_16, u75_17, u75_18, u75_21, u75_22, u75_22v1, u75_22v2, u75_22v3, u75_23, u75_24, u75_26, u75_26v1, u75_26v2, u75_26v3, u75_29, u75_30, s_ref0, pu_some, pu_none, q, if_true, (ref_0 q).1, s_set0]
  · simp only [u75_0, u75_1, u75_2, u75_3, u75_4, u75_7, u75_9, u75_11, u75_14, u75_16, u75_17, u75_18, u75_21, u75_22, u75_22v1, u75_22v2, u75_22v3, u75_23, u75_24, u75_26, u75_26v1, u75_26v2, u75_26v3, u75_29, u75_30, s_ref0, pu_some, pu_none, q, if_false]
theorem s_get0 {fo i : Int32} {n : Nat} (h : Sh 0 n m) : T S (f + 4) 77 0 [some (.ref 0), some (.int (nI 0)), some (.int fo), some (.int i)] [] m Rt = if refV 0 fo i m = nI 0 then Rt (some (.int (m 69 i.toNatClampNeg))) m else Rt (some (.int (-2147483648))) (refW 0 fo i m) := by
  by_cases q : refV 0 fo i m = nI 0
  · obtain ⟨q1, q2, q3⟩ := ref_0 q
    have h2 := h.2
    rw [h.1] at q3
    obtain ⟨k, hk, rfl⟩ := P_nI ⟨q2, q3⟩ (by omega)
    have hB : inB (nI k) 60 = true := inB8 (by omega) (by decide)
    simp only [u77_0, u77_1, u77_2, u77_3, u77_4, u77_7, u77_10, u77_11, u77_14, u77_15, u77_15v1, u77_15v2, u77_15v3, u77_16, u77_16v1, u77_16v2, u77_16v3, u77_19, u77_20, u77_20v1, u77_20v2, u77_20v3, u77_21, u77_24, u77_27, s_ref0, pu_some, pu_none, q, if_true, q1, hB, true_and]
  · simp only [u77_0, u77_1, u77_2, u77_3, u77_4, u77_7, u77_10, u77_11, u77_14, u77_15, u77_15v1, u77_15v2, u77_15v3, u77_16, u77_16v1, u77_16v2, u77_16v3, u77_19, u77_20, u77_20v1, u77_20v2, u77_20v3, u77_21, u77_24, u77_27, s_ref0, pu_some, pu_none, q, if_false]
theorem s_write0 (h : TS men inns fleet m) {n d : Nat} (hd : d < 30) (hs : Sh 0 n m) : T S (f + 6) 79 0 [some (.ref 0), some (.int (nI d)), some (.int (nI 0)), none, none, none] [] m Rt = if m 65 1 = -1 then Rt (some (.int (-10 - nI 1))) (up m 0 11 (nI 1)) else Rt (some (.int (nI (minN n men)))) (it (minN n men) (writeF men fleet 0 d) m) := by
  have hP := nI_P hd (by decide)
  have hb := h.2.2.2.1
  by_cases q : m 65 1 = -1
  · simp only [u79_0, u79_1, u79_4, u79_7, u79_8, u79_9, u79_12, u79_15, u79_17, u79_18, u79_19, u79_22, u79_23, u79_23v1, u79_23v2, u79_23v3, u79_24, u79_25, u79_26, u79_26v1, u79_26v2, u79_26v3, u79_29, u79_30, u79_33, u79_34, u79_35, u79_38, u79_39, u79_40, u79_40v1, u79_40v2, u79_40v3, u79_43, u79_44, u79_47, u79_50, u79_53, u79_55, u79_56, u79_60, u79_62, u79_65, u79_66, u79_68, u79_69, u79_72, u79_75, u79_76, u79_78, u79_79, u79_81, u79_82, u79_83, u79_83v1, u79_83v2, u79_83v3, u79_86, u79_89, u79_92, u79_94, s_isDay, s_isOneOf, pu_some, pu_none, b01_e0, hP, and_self, show (nI 0 ≤ nI 0 ∧ nI 0 < nI 4) = True by decide, not_true, if_false, q, if_true, s_found]
  · rw [if_neg q]
    have hmn : minN n men ≤ men := by unfold minN; split <;> omega
    have e := it_run (fun k (m : AMem) => T S (f + 6) 79 58 [some (.ref 0), some (.int (nI d)), some (.int (nI 0)), some (.ref 65), some (.int (nI (minN n men))), some (.int (nI k))] [] m Rt) (writeF men fleet 0 d) (fun _ m => TS men inns fleet m) (minN n men) (fun k _ m hm => TS_writeF hm) (fun k hk m hm => by
      have hle : ¬ minN n men ≤ k := by omega
      have hB : inB (nI (d * 8 + k)) 240 = true := inB8 (by omega) (by decide)
      refine u79_58.trans ?_
      simp (disch := omega) only [u79_0, u79_1, u79_4, u79_7, u79_8, u79_9, u79_12, u79_15, u79_17, u79_18, u79_19, u79_22, u79_23, u79_23v1, u79_23v2, u79_23v3, u79_24, u79_25, u79_26, u79_26v1, u79_26v2, u79_26v3, u79_29, u79_30, u79_33, u79_34, u79_35, u79_38, u79_39, u79_40, u79_40v1, u79_40v2, u79_40v3, u79_43, u79_44, u79_47, u79_50, u79_53, u79_55, u79_56, u79_60, u79_62, u79_65, u79_66, u79_68, u79_69, u79_72, u79_75, u79_76, u79_78, u79_79, u79_81, u79_82, u79_83, u79_83v1, u79_83v2, u79_83v3, u79_86, u79_89, u79_92, u79_94, nI_le8, hle, if_false, s_month hm, pu_some, pu_none, nI_mul8, nI_add, hB, nI_cl8, true_and, s_set0]
      rfl) m h
    refine Eq.trans ?_ (e.trans ?_)
    · have h2 := hs.2
      have hs1 : m 65 2 = nI n := hs.1
      have hlt : (nI men < nI n) = (men < n) := nI_lt8 (by omega) (by omega)
      simp (disch := omega) only [u79_0, u79_1, u79_4, u79_7, u79_8, u79_9, u79_12, u79_15, u79_17, u79_18, u79_19, u79_22, u79_23, u79_23v1, u79_23v2, u79_23v3, u79_24, u79_25, u79_26, u79_26v1, u79_26v2, u79_26v3, u79_29, u79_30, u79_33, u79_34, u79_35, u79_38, u79_39, u79_40, u79_40v1, u79_40v2, u79_40v3, u79_43, u79_44, u79_47, u79_50, u79_53, u79_55, u79_56, u79_60, u79_62, u79_65, u79_66, u79_68, u79_69, u79_72, u79_75, u79_76, u79_78, u79_79, u79_81, u79_82, u79_83, u79_83v1, u79_83v2, u79_83v3, u79_86, u79_89, u79_92, u79_94, s_isDay, s_isOneOf, pu_some, pu_none, b01_e0, hP, and_self, show (nI 0 ≤ nI 0 ∧ nI 0 < nI 4) = True by decide, not_true, if_false, q, hs1, h.1, hlt]
      unfold minN
      by_cases z : n ≤ men
      · have z2 : ¬ men < n := by omega
        simp only [z, z2, if_true, if_false]
      · have z2 : men < n := by omega
        simp only [z, z2, if_true, if_false]
    · refine u79_58.trans ?_
      simp (disch := omega) only [u79_0, u79_1, u79_4, u79_7, u79_8, u79_9, u79_12, u79_15, u79_17, u79_18, u79_19, u79_22, u79_23, u79_23v1, u79_23v2, u79_23v3, u79_24, u79_25, u79_26, u79_26v1, u79_26v2, u79_26v3, u79_29, u79_30, u79_33, u79_34, u79_35, u79_38, u79_39, u79_40, u79_40v1, u79_40v2, u79_40v3, u79_43, u79_44, u79_47, u79_50, u79_53, u79_55, u79_56, u79_60, u79_62, u79_65, u79_66, u79_68, u79_69, u79_72, u79_75, u79_76, u79_78, u79_79, u79_81, u79_82, u79_83, u79_83v1, u79_83v2, u79_83v3, u79_86, u79_89, u79_92, u79_94, nI_le8, Nat.le_refl, if_true]
theorem s_sheet1 {fo n : Int32} : T S (f + 3) 73 0 [some (.ref 0), some (.int (nI 1)), some (.int fo), some (.int n)] [] m Rt = if (nI 0 ≤ fo ∧ fo < nI 3) ∧ n ≤ nI 60 then (if n < nI 0 then Rt (some (.int (-10 - nI 5))) (up m 0 11 (nI 5)) else Rt (some (.int n)) (renewM 1 fo n m)) else Rt (some (.int (-2))) m := by
  by_cases q1 : nI 0 ≤ fo ∧ fo < nI 3
  · by_cases q2 : n ≤ nI 60
    · by_cases q3 : n < nI 0
      · simp only [u73_0, u73_1, u73_2, u73_5, u73_8, u73_9, u73_10, u73_13, u73_16, u73_17, u73_19, u73_22, u73_24, u73_25, u73_26, u73_29, u73_30, u73_31, u73_34, u73_35, u73_36, u73_39, u73_40, u73_40v1, u73_40v2, u73_40v3, u73_41, u73_42, u73_43, u73_43v1, u73_43v2, u73_43v3, u73_46, u73_47, s_isOneOf, pu_some, pu_none, b01_e0, show (nI 0 ≤ nI 1 ∧ nI 1 < nI 4) = True by decide, not_true, if_false, q1, and_self, q2, if_true, le_n (nI 0) n, q3, s_found]
      · simp only [u73_0, u73_1, u73_2, u73_5, u73_8, u73_9, u73_10, u73_13, u73_16, u73_17, u73_19, u73_22, u73_24, u73_25, u73_26, u73_29, u73_30, u73_31, u73_34, u73_35, u73_36, u73_39, u73_40, u73_40v1, u73_40v2, u73_40v3, u73_41, u73_42, u73_43, u73_43v1, u73_43v2, u73_43v3, u73_46, u73_47, s_isOneOf, pu_some, pu_none, b01_e0, show (nI 0 ≤ nI 1 ∧ nI 1 < nI 4) = True by decide, not_true, if_false, q1, and_self, q2, if_true, le_n (nI 0) n, q3, not_false_iff, s_renew1]
    · simp only [u73_0, u73_1, u73_2, u73_5, u73_8, u73_9, u73_10, u73_13, u73_16, u73_17, u73_19, u73_22, u73_24, u73_25, u73_26, u73_29, u73_30, u73_31, u73_34, u73_35, u73_36, u73_39, u73_40, u73_40v1, u73_40v2, u73_40v3, u73_41, u73_42, u73_43, u73_43v1, u73_43v2, u73_43v3, u73_46, u73_47, s_isOneOf, pu_some, pu_none, b01_e0, show (nI 0 ≤ nI 1 ∧ nI 1 < nI 4) = True by decide, not_true, if_false, q1, and_self, q2, and_false]
  · simp only [u73_0, u73_1, u73_2, u73_5, u73_8, u73_9, u73_10, u73_13, u73_16, u73_17, u73_19, u73_22, u73_24, u73_25, u73_26, u73_29, u73_30, u73_31, u73_34, u73_35, u73_36, u73_39, u73_40, u73_40v1, u73_40v2, u73_40v3, u73_41, u73_42, u73_43, u73_43v1, u73_43v2, u73_43v3, u73_46, u73_47, s_isOneOf, pu_some, pu_none, b01_e0, show (nI 0 ≤ nI 1 ∧ nI 1 < nI 4) = True by decide, not_true, if_false, q1, not_false_iff, if_true, false_and]
theorem s_lose1 : T S (f + 3) 74 0 [some (.ref 0), some (.int (nI 1))] [] m Rt = if m 66 1 = -1 then Rt (some (.int (-10 - nI 1))) (up m 0 11 (nI 1)) else Rt (some (.int (m 66 2))) (up m 66 1 (-1)) := by
  by_cases q : m 66 1 = -1
  · simp only [u74_0, u74_1, u74_2, u74_5, u74_8, u74_10, u74_11, u74_12, u74_15, u74_16, u74_16v1, u74_16v2, u74_16v3, u74_17, u74_17v1, u74_17v2, u74_17v3, u74_20, u74_21, u74_24, u74_25, u74_26, u74_29, u74_30, u74_31, u74_34, u74_35, u74_35v1, u74_35v2, u74_35v3, u74_36, u74_37, u74_37v1, u74_37v2, u74_37v3, u74_40, u74_41, u74_44, u74_45, u74_45v1, u74_45v2, u74_45v3, u74_46, u74_46v1, u74_46v2, u74_46v3, u74_49, s_isOneOf, pu_some, pu_none, b01_e0, show (nI 0 ≤ nI 1 ∧ nI 1 < nI 4) = True by decide, not_true, if_false, q, if_true, s_found]
  · simp only [u74_0, u74_1, u74_2, u74_5, u74_8, u74_10, u74_11, u74_12, u74_15, u74_16, u74_16v1, u74_16v2, u74_16v3, u74_17, u74_17v1, u74_17v2, u74_17v3, u74_20, u74_21, u74_24, u74_25, u74_26, u74_29, u74_30, u74_31, u74_34, u74_35, u74_35v1, u74_35v2, u74_35v3, u74_36, u74_37, u74_37v1, u74_37v2, u74_37v3, u74_40, u74_41, u74_44, u74_45, u74_45v1, u74_45v2, u74_45v3, u74_46, u74_46v1, u74_46v2, u74_46v3, u74_49, s_isOneOf, pu_some, pu_none, b01_e0, show (nI 0 ≤ nI 1 ∧ nI 1 < nI 4) = True by decide, not_true, if_false, q, up_ap, upA_ap, Nat.reduceEqDiff, false_and, true_and, and_true, and_false, and_self, if_false, if_true]
theorem s_ref1 {fo i : Int32} : T S (f + 3) 76 0 [some (.ref 0), some (.int (nI 1)), some (.int fo), some (.int i)] [] m Rt = Rt (some (.int (refV 1 fo i m))) (refW 1 fo i m) := by
  unfold refV refW
  by_cases q1 : nI 0 ≤ fo ∧ fo < nI 3
  · by_cases q2 : m 66 1 = -1
    · simp only [u76_0, u76_1, u76_2, u76_5, u76_8, u76_9, u76_10, u76_13, u76_16, u76_18, u76_19, u76_20, u76_23, u76_24, u76_24v1, u76_24v2, u76_24v3, u76_25, u76_25v1, u76_25v2, u76_25v3, u76_28, u76_29, u76_32, u76_33, u76_34, u76_37, u76_38, u76_39, u76_42, u76_43, u76_43v1, u76_43v2, u76_43v3, u76_44, u76_44v1, u76_44v2, u76_44v3, u76_47, u76_48, u76_51, u76_52, u76_53, u76_56, u76_57, u76_58, u76_59, u76_62, u76_63, u76_63v1, u76_63v2, u76_63v3, u76_64, u76_64v1, u76_64v2, u76_64v3, u76_67, u76_70, u76_73, u76_74, u76_77, u76_78, u76_79, u76_82, s_isOneOf, pu_some, pu_none, b01_e0, show (nI 0 ≤ nI 1 ∧ nI 1 < nI 4) = True by decide, not_true, if_false, q1, and_self, q2, if_true, s_found]
    · by_cases q3 : m 66 1 = fo
      · have q5 : ¬ fo = -1 := fun z => q2 (q3.trans z)
        by_cases q4 : nI 0 ≤ i ∧ i < m 66 2
        · simp only [u76_0, u76_1, u76_2, u76_5, u76_8, u76_9, u76_10, u76_13, u76_16, u76_18, u76_19, u76_20, u76_23, u76_24, u76_24v1, u76_24v2, u76_24v3, u76_25, u76_25v1, u76_25v2, u76_25v3, u76_28, u76_29, u76_32, u76_33, u76_34, u76_37, u76_38, u76_39, u76_42, u76_43, u76_43v1, u76_43v2, u76_43v3, u76_44, u76_44v1, u76_44v2, u76_44v3, u76_47, u76_48, u76_51, u76_52, u76_53, u76_56, u76_57, u76_58, u76_59, u76_62, u76_63, u76_63v1, u76_63v2, u76_63v3, u76_64, u76_64v1, u76_64v2, u76_64v3, u76_67, u76_70, u76_73, u76_74, u76_77, u76_78, u76_79, u76_82, s_isOneOf, pu_some, pu_none, b01_e0, show (nI 0 ≤ nI 1 ∧ nI 1 < nI 4) = True by decide, not_true, if_false, q1, and_self, q2, q3, q5, q4, if_true, s_found]
        · simp only [u76_0, u76_1, u76_2, u76_5, u76_8, u76_9, u76_10, u76_13, u76_16, u76_18, u76_19, u76_20, u76_23, u76_24, u76_24v1, u76_24v2, u76_24v3, u76_25, u76_25v1, u76_25v2, u76_25v3, u76_28, u76_29, u76_32, u76_33, u76_34, u76_37, u76_38, u76_39, u76_42, u76_43, u76_43v1, u76_43v2, u76_43v3, u76_44, u76_44v1, u76_44v2, u76_44v3, u76_47, u76_48, u76_51, u76_52, u76_53, u76_56, u76_57, u76_58, u76_59, u76_62, u76_63, u76_63v1, u76_63v2, u76_63v3, u76_64, u76_64v1, u76_64v2, u76_64v3, u76_67, u76_70, u76_73, u76_74, u76_77, u76_78, u76_79, u76_82, s_isOneOf, pu_some, pu_none, b01_e0, show (nI 0 ≤ nI 1 ∧ nI 1 < nI 4) = True by decide, not_true, if_false, q1, and_self, q2, q3, q5, q4, not_false_iff, if_true, s_found]
      · simp only [u76_0, u76_1, u76_2, u76_5, u76_8, u76_9, u76_10, u76_13, u76_16, u76_18, u76_19, u76_20, u76_23, u76_24, u76_24v1, u76_24v2, u76_24v3, u76_25, u76_25v1, u76_25v2, u76_25v3, u76_28, u76_29, u76_32, u76_33, u76_34, u76_37, u76_38, u76_39, u76_42, u76_43, u76_43v1, u76_43v2, u76_43v3, u76_44, u76_44v1, u76_44v2, u76_44v3, u76_47, u76_48, u76_51, u76_52, u76_53, u76_56, u76_57, u76_58, u76_59, u76_62, u76_63, u76_63v1, u76_63v2, u76_63v3, u76_64, u76_64v1, u76_64v2, u76_64v3, u76_67, u76_70, u76_73, u76_74, u76_77, u76_78, u76_79, u76_82, s_isOneOf, pu_some, pu_none, b01_e0, show (nI 0 ≤ nI 1 ∧ nI 1 < nI 4) = True by decide, not_true, if_false, q1, and_self, q2, q3, if_true, s_found]
  · simp only [u76_0, u76_1, u76_2, u76_5, u76_8, u76_9, u76_10, u76_13, u76_16, u76_18, u76_19, u76_20, u76_23, u76_24, u76_24v1, u76_24v2, u76_24v3, u76_25, u76_25v1, u76_25v2, u76_25v3, u76_28, u76_29, u76_32, u76_33, u76_34, u76_37, u76_38, u76_39, u76_42, u76_43, u76_43v1, u76_43v2, u76_43v3, u76_44, u76_44v1, u76_44v2, u76_44v3, u76_47, u76_48, u76_51, u76_52, u76_53, u76_56, u76_57, u76_58, u76_59, u76_62, u76_63, u76_63v1, u76_63v2, u76_63v3, u76_64, u76_64v1, u76_64v2, u76_64v3, u76_67, u76_70, u76_73, u76_74, u76_77, u76_78, u76_79, u76_82, s_isOneOf, pu_some, pu_none, b01_e0, show (nI 0 ≤ nI 1 ∧ nI 1 < nI 4) = True by decide, not_true, if_false, q1, not_false_iff, if_true]
theorem s_put1 {fo i v : Int32} : T S (f + 4) 75 0 [some (.ref 0), some (.int (nI 1)), some (.int fo), some (.int i), some (.int v), none] [] m Rt = if refV 1 fo i m = nI 0 then Rt (some (.int (nI 1))) (setM 1 i v m) else Rt (some (.int (refV 1 fo i m))) (refW 1 fo i m) := by
  by_cases q : refV 1 fo i m = nI 0
  · simp only [u75_0, u75_1, u75_2, u75_3, u75_4, u75_7, u75_9, u75_11, u75_14, u75_16, u75_17, u75_18, u75_21, u75_22, u75_22v1, u75_22v2, u75_22v3, u75_23, u75_24, u75_26, u75_26v1, u75_26v2, u75_26v3, u75_29, u75_30, s_ref1, pu_some, pu_none, q, if_true, (ref_0 q).1, s_set1]
  · simp only [u75_0, u75_1, u75_2, u75_3, u75_4, u75_7, u75_9, u75_11, u75_14, u75_16, u75_17, u75_18, u75_21, u75_22, u75_22v1, u75_22v2, u75_22v3, u75_23, u75_24, u75_26, u75_26v1, u75_26v2, u75_26v3, u75_29, u75_30, s_ref1, pu_some, pu_none, q, if_false]
theorem s_get1 {fo i : Int32} {n : Nat} (h : Sh 1 n m) : T S (f + 4) 77 0 [some (.ref 0), some (.int (nI 1)), some (.int fo), some (.int i)] [] m Rt = if refV 1 fo i m = nI 0 then Rt (some (.int (m 70 i.toNatClampNeg))) m else Rt (some (.int (-2147483648))) (refW 1 fo i m) := by
  by_cases q : refV 1 fo i m = nI 0
  · obtain ⟨q1, q2, q3⟩ := ref_0 q
    have h2 := h.2
    rw [h.1] at q3
    obtain ⟨k, hk, rfl⟩ := P_nI ⟨q2, q3⟩ (by omega)
    have hB : inB (nI k) 60 = true := inB8 (by omega) (by decide)
    simp only [u77_0, u77_1, u77_2, u77_3, u77_4, u77_7, u77_10, u77_11, u77_14, u77_15, u77_15v1, u77_15v2, u77_15v3, u77_16, u77_16v1, u77_16v2, u77_16v3, u77_19, u77_20, u77_20v1, u77_20v2, u77_20v3, u77_21, u77_24, u77_27, s_ref1, pu_some, pu_none, q, if_true, q1, hB, true_and]
  · simp only [u77_0, u77_1, u77_2, u77_3, u77_4, u77_7, u77_10, u77_11, u77_14, u77_15, u77_15v1, u77_15v2, u77_15v3, u77_16, u77_16v1, u77_16v2, u77_16v3, u77_19, u77_20, u77_20v1, u77_20v2, u77_20v3, u77_21, u77_24, u77_27, s_ref1, pu_some, pu_none, q, if_false]
theorem s_write1 (h : TS men inns fleet m) {n d : Nat} (hd : d < 30) (hs : Sh 1 n m) : T S (f + 6) 79 0 [some (.ref 0), some (.int (nI d)), some (.int (nI 1)), none, none, none] [] m Rt = if m 66 1 = -1 then Rt (some (.int (-10 - nI 1))) (up m 0 11 (nI 1)) else Rt (some (.int (nI (minN n men)))) (it (minN n men) (writeF men fleet 1 d) m) := by
  have hP := nI_P hd (by decide)
  have hb := h.2.2.2.1
  by_cases q : m 66 1 = -1
  · simp only [u79_0, u79_1, u79_4, u79_7, u79_8, u79_9, u79_12, u79_15, u79_17, u79_18, u79_19, u79_22, u79_23, u79_23v1, u79_23v2, u79_23v3, u79_24, u79_25, u79_26, u79_26v1, u79_26v2, u79_26v3, u79_29, u79_30, u79_33, u79_34, u79_35, u79_38, u79_39, u79_40, u79_40v1, u79_40v2, u79_40v3, u79_43, u79_44, u79_47, u79_50, u79_53, u79_55, u79_56, u79_60, u79_62, u79_65, u79_66, u79_68, u79_69, u79_72, u79_75, u79_76, u79_78, u79_79, u79_81, u79_82, u79_83, u79_83v1, u79_83v2, u79_83v3, u79_86, u79_89, u79_92, u79_94, s_isDay, s_isOneOf, pu_some, pu_none, b01_e0, hP, and_self, show (nI 0 ≤ nI 1 ∧ nI 1 < nI 4) = True by decide, not_true, if_false, q, if_true, s_found]
  · rw [if_neg q]
    have hmn : minN n men ≤ men := by unfold minN; split <;> omega
    have e := it_run (fun k (m : AMem) => T S (f + 6) 79 58 [some (.ref 0), some (.int (nI d)), some (.int (nI 1)), some (.ref 66), some (.int (nI (minN n men))), some (.int (nI k))] [] m Rt) (writeF men fleet 1 d) (fun _ m => TS men inns fleet m) (minN n men) (fun k _ m hm => TS_writeF hm) (fun k hk m hm => by
      have hle : ¬ minN n men ≤ k := by omega
      have hB : inB (nI (d * 8 + k)) 240 = true := inB8 (by omega) (by decide)
      refine u79_58.trans ?_
      simp (disch := omega) only [u79_0, u79_1, u79_4, u79_7, u79_8, u79_9, u79_12, u79_15, u79_17, u79_18, u79_19, u79_22, u79_23, u79_23v1, u79_23v2, u79_23v3, u79_24, u79_25, u79_26, u79_26v1, u79_26v2, u79_26v3, u79_29, u79_30, u79_33, u79_34, u79_35, u79_38, u79_39, u79_40, u79_40v1, u79_40v2, u79_40v3, u79_43, u79_44, u79_47, u79_50, u79_53, u79_55, u79_56, u79_60, u79_62, u79_65, u79_66, u79_68, u79_69, u79_72, u79_75, u79_76, u79_78, u79_79, u79_81, u79_82, u79_83, u79_83v1, u79_83v2, u79_83v3, u79_86, u79_89, u79_92, u79_94, nI_le8, hle, if_false, s_month hm, pu_some, pu_none, nI_mul8, nI_add, hB, nI_cl8, true_and, s_set1]
      rfl) m h
    refine Eq.trans ?_ (e.trans ?_)
    · have h2 := hs.2
      have hs1 : m 66 2 = nI n := hs.1
      have hlt : (nI men < nI n) = (men < n) := nI_lt8 (by omega) (by omega)
      simp (disch := omega) only [u79_0, u79_1, u79_4, u79_7, u79_8, u79_9, u79_12, u79_15, u79_17, u79_18, u79_19, u79_22, u79_23, u79_23v1, u79_23v2, u79_23v3, u79_24, u79_25, u79_26, u79_26v1, u79_26v2, u79_26v3, u79_29, u79_30, u79_33, u79_34, u79_35, u79_38, u79_39, u79_40, u79_40v1, u79_40v2, u79_40v3, u79_43, u79_44, u79_47, u79_50, u79_53, u79_55, u79_56, u79_60, u79_62, u79_65, u79_66, u79_68, u79_69, u79_72, u79_75, u79_76, u79_78, u79_79, u79_81, u79_82, u79_83, u79_83v1, u79_83v2, u79_83v3, u79_86, u79_89, u79_92, u79_94, s_isDay, s_isOneOf, pu_some, pu_none, b01_e0, hP, and_self, show (nI 0 ≤ nI 1 ∧ nI 1 < nI 4) = True by decide, not_true, if_false, q, hs1, h.1, hlt]
      unfold minN
      by_cases z : n ≤ men
      · have z2 : ¬ men < n := by omega
        simp only [z, z2, if_true, if_false]
      · have z2 : men < n := by omega
        simp only [z, z2, if_true, if_false]
    · refine u79_58.trans ?_
      simp (disch := omega) only [u79_0, u79_1, u79_4, u79_7, u79_8, u79_9, u79_12, u79_15, u79_17, u79_18, u79_19, u79_22, u79_23, u79_23v1, u79_23v2, u79_23v3, u79_24, u79_25, u79_26, u79_26v1, u79_26v2, u79_26v3, u79_29, u79_30, u79_33, u79_34, u79_35, u79_38, u79_39, u79_40, u79_40v1, u79_40v2, u79_40v3, u79_43, u79_44, u79_47, u79_50, u79_53, u79_55, u79_56, u79_60, u79_62, u79_65, u79_66, u79_68, u79_69, u79_72, u79_75, u79_76, u79_78, u79_79, u79_81, u79_82, u79_83, u79_83v1, u79_83v2, u79_83v3, u79_86, u79_89, u79_92, u79_94, nI_le8, Nat.le_refl, if_true]
theorem s_sheet2 {fo n : Int32} : T S (f + 3) 73 0 [some (.ref 0), some (.int (nI 2)), some (.int fo), some (.int n)] [] m Rt = if (nI 0 ≤ fo ∧ fo < nI 3) ∧ n ≤ nI 60 then (if n < nI 0 then Rt (some (.int (-10 - nI 5))) (up m 0 11 (nI 5)) else Rt (some (.int n)) (renewM 2 fo n m)) else Rt (some (.int (-2))) m := by
  by_cases q1 : nI 0 ≤ fo ∧ fo < nI 3
  · by_cases q2 : n ≤ nI 60
    · by_cases q3 : n < nI 0
      · simp only [u73_0, u73_1, u73_2, u73_5, u73_8, u73_9, u73_10, u73_13, u73_16, u73_17, u73_19, u73_22, u73_24, u73_25, u73_26, u73_29, u73_30, u73_31, u73_34, u73_35, u73_36, u73_39, u73_40, u73_40v1, u73_40v2, u73_40v3, u73_41, u73_42, u73_43, u73_43v1, u73_43v2, u73_43v3, u73_46, u73_47, s_isOneOf, pu_some, pu_none, b01_e0, show (nI 0 ≤ nI 2 ∧ nI 2 < nI 4) = True by decide, not_true, if_false, q1, and_self, q2, if_true, le_n (nI 0) n, q3, s_found]
      · simp only [u73_0, u73_1, u73_2, u73_5, u73_8, u73_9, u73_10, u73_13, u73_16, u73_17, u73_19, u73_22, u73_24, u73_25, u73_26, u73_29, u73_30, u73_31, u73_34, u73_35, u73_36, u73_39, u73_40, u73_40v1, u73_40v2, u73_40v3, u73_41, u73_42, u73_43, u73_43v1, u73_43v2, u73_43v3, u73_46, u73_47, s_isOneOf, pu_some, pu_none, b01_e0, show (nI 0 ≤ nI 2 ∧ nI 2 < nI 4) = True by decide, not_true, if_false, q1, and_self, q2, if_true, le_n (nI 0) n, q3, not_false_iff, s_renew2]
    · simp only [u73_0, u73_1, u73_2, u73_5, u73_8, u73_9, u73_10, u73_13, u73_16, u73_17, u73_19, u73_22, u73_24, u73_25, u73_26, u73_29, u73_30, u73_31, u73_34, u73_35, u73_36, u73_39, u73_40, u73_40v1, u73_40v2, u73_40v3, u73_41, u73_42, u73_43, u73_43v1, u73_43v2, u73_43v3, u73_46, u73_47, s_isOneOf, pu_some, pu_none, b01_e0, show (nI 0 ≤ nI 2 ∧ nI 2 < nI 4) = True by decide, not_true, if_false, q1, and_self, q2, and_false]
  · simp only [u73_0, u73_1, u73_2, u73_5, u73_8, u73_9, u73_10, u73_13, u73_16, u73_17, u73_19, u73_22, u73_24, u73_25, u73_26, u73_29, u73_30, u73_31, u73_34, u73_35, u73_36, u73_39, u73_40, u73_40v1, u73_40v2, u73_40v3, u73_41, u73_42, u73_43, u73_43v1, u73_43v2, u73_43v3, u73_46, u73_47, s_isOneOf, pu_some, pu_none, b01_e0, show (nI 0 ≤ nI 2 ∧ nI 2 < nI 4) = True by decide, not_true, if_false, q1, not_false_iff, if_true, false_and]
theorem s_lose2 : T S (f + 3) 74 0 [some (.ref 0), some (.int (nI 2))] [] m Rt = if m 67 1 = -1 then Rt (some (.int (-10 - nI 1))) (up m 0 11 (nI 1)) else Rt (some (.int (m 67 2))) (up m 67 1 (-1)) := by
  by_cases q : m 67 1 = -1
  · simp only [u74_0, u74_1, u74_2, u74_5, u74_8, u74_10, u74_11, u74_12, u74_15, u74_16, u74_16v1, u74_16v2, u74_16v3, u74_17, u74_17v1, u74_17v2, u74_17v3, u74_20, u74_21, u74_24, u74_25, u74_26, u74_29, u74_30, u74_31, u74_34, u74_35, u74_35v1, u74_35v2, u74_35v3, u74_36, u74_37, u74_37v1, u74_37v2, u74_37v3, u74_40, u74_41, u74_44, u74_45, u74_45v1, u74_45v2, u74_45v3, u74_46, u74_46v1, u74_46v2, u74_46v3, u74_49, s_isOneOf, pu_some, pu_none, b01_e0, show (nI 0 ≤ nI 2 ∧ nI 2 < nI 4) = True by decide, not_true, if_false, q, if_true, s_found]
  · simp only [u74_0, u74_1, u74_2, u74_5, u74_8, u74_10, u74_11, u74_12, u74_15, u74_16, u74_16v1, u74_16v2, u74_16v3, u74_17, u74_17v1, u74_17v2, u74_17v3, u74_20, u74_21, u74_24, u74_25, u74_26, u74_29, u74_30, u74_31, u74_34, u74_35, u74_35v1, u74_35v2, u74_35v3, u74_36, u74_37, u74_37v1, u74_37v2, u74_37v3, u74_40, u74_41, u74_44, u74_45, u74_45v1, u74_45v2, u74_45v3, u74_46, u74_46v1, u74_46v2, u74_46v3, u74_49, s_isOneOf, pu_some, pu_none, b01_e0, show (nI 0 ≤ nI 2 ∧ nI 2 < nI 4) = True by decide, not_true, if_false, q, up_ap, upA_ap, Nat.reduceEqDiff, false_and, true_and, and_true, and_false, and_self, if_false, if_true]
theorem s_ref2 {fo i : Int32} : T S (f + 3) 76 0 [some (.ref 0), some (.int (nI 2)), some (.int fo), some (.int i)] [] m Rt = Rt (some (.int (refV 2 fo i m))) (refW 2 fo i m) := by
  unfold refV refW
  by_cases q1 : nI 0 ≤ fo ∧ fo < nI 3
  · by_cases q2 : m 67 1 = -1
    · simp only [u76_0, u76_1, u76_2, u76_5, u76_8, u76_9, u76_10, u76_13, u76_16, u76_18, u76_19, u76_20, u76_23, u76_24, u76_24v1, u76_24v2, u76_24v3, u76_25, u76_25v1, u76_25v2, u76_25v3, u76_28, u76_29, u76_32, u76_33, u76_34, u76_37, u76_38, u76_39, u76_42, u76_43, u76_43v1, u76_43v2, u76_43v3, u76_44, u76_44v1, u76_44v2, u76_44v3, u76_47, u76_48, u76_51, u76_52, u76_53, u76_56, u76_57, u76_58, u76_59, u76_62, u76_63, u76_63v1, u76_63v2, u76_63v3, u76_64, u76_64v1, u76_64v2, u76_64v3, u76_67, u76_70, u76_73, u76_74, u76_77, u76_78, u76_79, u76_82, s_isOneOf, pu_some, pu_none, b01_e0, show (nI 0 ≤ nI 2 ∧ nI 2 < nI 4) = True by decide, not_true, if_false, q1, and_self, q2, if_true, s_found]
    · by_cases q3 : m 67 1 = fo
      · have q5 : ¬ fo = -1 := fun z => q2 (q3.trans z)
        by_cases q4 : nI 0 ≤ i ∧ i < m 67 2
        · simp only [u76_0, u76_1, u76_2, u76_5, u76_8, u76_9, u76_10, u76_13, u76_16, u76_18, u76_19, u76_20, u76_23, u76_24, u76_24v1, u76_24v2, u76_24v3, u76_25, u76_25v1, u76_25v2, u76_25v3, u76_28, u76_29, u76_32, u76_33, u76_34, u76_37, u76_38, u76_39, u76_42, u76_43, u76_43v1, u76_43v2, u76_43v3, u76_44, u76_44v1, u76_44v2, u76_44v3, u76_47, u76_48, u76_51, u76_52, u76_53, u76_56, u76_57, u76_58, u76_59, u76_62, u76_63, u76_63v1, u76_63v2, u76_63v3, u76_64, u76_64v1, u76_64v2, u76_64v3, u76_67, u76_70, u76_73, u76_74, u76_77, u76_78, u76_79, u76_82, s_isOneOf, pu_some, pu_none, b01_e0, show (nI 0 ≤ nI 2 ∧ nI 2 < nI 4) = True by decide, not_true, if_false, q1, and_self, q2, q3, q5, q4, if_true, s_found]
        · simp only [u76_0, u76_1, u76_2, u76_5, u76_8, u76_9, u76_10, u76_13, u76_16, u76_18, u76_19, u76_20, u76_23, u76_24, u76_24v1, u76_24v2, u76_24v3, u76_25, u76_25v1, u76_25v2, u76_25v3, u76_28, u76_29, u76_32, u76_33, u76_34, u76_37, u76_38, u76_39, u76_42, u76_43, u76_43v1, u76_43v2, u76_43v3, u76_44, u76_44v1, u76_44v2, u76_44v3, u76_47, u76_48, u76_51, u76_52, u76_53, u76_56, u76_57, u76_58, u76_59, u76_62, u76_63, u76_63v1, u76_63v2, u76_63v3, u76_64, u76_64v1, u76_64v2, u76_64v3, u76_67, u76_70, u76_73, u76_74, u76_77, u76_78, u76_79, u76_82, s_isOneOf, pu_some, pu_none, b01_e0, show (nI 0 ≤ nI 2 ∧ nI 2 < nI 4) = True by decide, not_true, if_false, q1, and_self, q2, q3, q5, q4, not_false_iff, if_true, s_found]
      · simp only [u76_0, u76_1, u76_2, u76_5, u76_8, u76_9, u76_10, u76_13, u76_16, u76_18, u76_19, u76_20, u76_23, u76_24, u76_24v1, u76_24v2, u76_24v3, u76_25, u76_25v1, u76_25v2, u76_25v3, u76_28, u76_29, u76_32, u76_33, u76_34, u76_37, u76_38, u76_39, u76_42, u76_43, u76_43v1, u76_43v2, u76_43v3, u76_44, u76_44v1, u76_44v2, u76_44v3, u76_47, u76_48, u76_51, u76_52, u76_53, u76_56, u76_57, u76_58, u76_59, u76_62, u76_63, u76_63v1, u76_63v2, u76_63v3, u76_64, u76_64v1, u76_64v2, u76_64v3, u76_67, u76_70, u76_73, u76_74, u76_77, u76_78, u76_79, u76_82, s_isOneOf, pu_some, pu_none, b01_e0, show (nI 0 ≤ nI 2 ∧ nI 2 < nI 4) = True by decide, not_true, if_false, q1, and_self, q2, q3, if_true, s_found]
  · simp only [u76_0, u76_1, u76_2, u76_5, u76_8, u76_9, u76_10, u76_13, u76_16, u76_18, u76_19, u76_20, u76_23, u76_24, u76_24v1, u76_24v2, u76_24v3, u76_25, u76_25v1, u76_25v2, u76_25v3, u76_28, u76_29, u76_32, u76_33, u76_34, u76_37, u76_38, u76_39, u76_42, u76_43, u76_43v1, u76_43v2, u76_43v3, u76_44, u76_44v1, u76_44v2, u76_44v3, u76_47, u76_48, u76_51, u76_52, u76_53, u76_56, u76_57, u76_58, u76_59, u76_62, u76_63, u76_63v1, u76_63v2, u76_63v3, u76_64, u76_64v1, u76_64v2, u76_64v3, u76_67, u76_70, u76_73, u76_74, u76_77, u76_78, u76_79, u76_82, s_isOneOf, pu_some, pu_none, b01_e0, show (nI 0 ≤ nI 2 ∧ nI 2 < nI 4) = True by decide, not_true, if_false, q1, not_false_iff, if_true]
theorem s_put2 {fo i v : Int32} : T S (f + 4) 75 0 [some (.ref 0), some (.int (nI 2)), some (.int fo), some (.int i), some (.int v), none] [] m Rt = if refV 2 fo i m = nI 0 then Rt (some (.int (nI 1))) (setM 2 i v m) else Rt (some (.int (refV 2 fo i m))) (refW 2 fo i m) := by
  by_cases q : refV 2 fo i m = nI 0
  · simp only [u75_0, u75_1, u75_2, u75_3, u75_4, u75_7, u75_9, u75_11, u75_14, u75_16, u75_17, u75_18, u75_21, u75_22, u75_22v1, u75_22v2, u75_22v3, u75_23, u75_24, u75_26, u75_26v1, u75_26v2, u75_26v3, u75_29, u75_30, s_ref2, pu_some, pu_none, q, if_true, (ref_0 q).1, s_set2]
  · simp only [u75_0, u75_1, u75_2, u75_3, u75_4, u75_7, u75_9, u75_11, u75_14, u75_16, u75_17, u75_18, u75_21, u75_22, u75_22v1, u75_22v2, u75_22v3, u75_23, u75_24, u75_26, u75_26v1, u75_26v2, u75_26v3, u75_29, u75_30, s_ref2, pu_some, pu_none, q, if_false]
theorem s_get2 {fo i : Int32} {n : Nat} (h : Sh 2 n m) : T S (f + 4) 77 0 [some (.ref 0), some (.int (nI 2)), some (.int fo), some (.int i)] [] m Rt = if refV 2 fo i m = nI 0 then Rt (some (.int (m 71 i.toNatClampNeg))) m else Rt (some (.int (-2147483648))) (refW 2 fo i m) := by
  by_cases q : refV 2 fo i m = nI 0
  · obtain ⟨q1, q2, q3⟩ := ref_0 q
    have h2 := h.2
    rw [h.1] at q3
    obtain ⟨k, hk, rfl⟩ := P_nI ⟨q2, q3⟩ (by omega)
    have hB : inB (nI k) 60 = true := inB8 (by omega) (by decide)
    simp only [u77_0, u77_1, u77_2, u77_3, u77_4, u77_7, u77_10, u77_11, u77_14, u77_15, u77_15v1, u77_15v2, u77_15v3, u77_16, u77_16v1, u77_16v2, u77_16v3, u77_19, u77_20, u77_20v1, u77_20v2, u77_20v3, u77_21, u77_24, u77_27, s_ref2, pu_some, pu_none, q, if_true, q1, hB, true_and]
  · simp only [u77_0, u77_1, u77_2, u77_3, u77_4, u77_7, u77_10, u77_11, u77_14, u77_15, u77_15v1, u77_15v2, u77_15v3, u77_16, u77_16v1, u77_16v2, u77_16v3, u77_19, u77_20, u77_20v1, u77_20v2, u77_20v3, u77_21, u77_24, u77_27, s_ref2, pu_some, pu_none, q, if_false]
theorem s_write2 (h : TS men inns fleet m) {n d : Nat} (hd : d < 30) (hs : Sh 2 n m) : T S (f + 6) 79 0 [some (.ref 0), some (.int (nI d)), some (.int (nI 2)), none, none, none] [] m Rt = if m 67 1 = -1 then Rt (some (.int (-10 - nI 1))) (up m 0 11 (nI 1)) else Rt (some (.int (nI (minN n men)))) (it (minN n men) (writeF men fleet 2 d) m) := by
  have hP := nI_P hd (by decide)
  have hb := h.2.2.2.1
  by_cases q : m 67 1 = -1
  · simp only [u79_0, u79_1, u79_4, u79_7, u79_8, u79_9, u79_12, u79_15, u79_17, u79_18, u79_19, u79_22, u79_23, u79_23v1, u79_23v2, u79_23v3, u79_24, u79_25, u79_26, u79_26v1, u79_26v2, u79_26v3, u79_29, u79_30, u79_33, u79_34, u79_35, u79_38, u79_39, u79_40, u79_40v1, u79_40v2, u79_40v3, u79_43, u79_44, u79_47, u79_50, u79_53, u79_55, u79_56, u79_60, u79_62, u79_65, u79_66, u79_68, u79_69, u79_72, u79_75, u79_76, u79_78, u79_79, u79_81, u79_82, u79_83, u79_83v1, u79_83v2, u79_83v3, u79_86, u79_89, u79_92, u79_94, s_isDay, s_isOneOf, pu_some, pu_none, b01_e0, hP, and_self, show (nI 0 ≤ nI 2 ∧ nI 2 < nI 4) = True by decide, not_true, if_false, q, if_true, s_found]
  · rw [if_neg q]
    have hmn : minN n men ≤ men := by unfold minN; split <;> omega
    have e := it_run (fun k (m : AMem) => T S (f + 6) 79 58 [some (.ref 0), some (.int (nI d)), some (.int (nI 2)), some (.ref 67), some (.int (nI (minN n men))), some (.int (nI k))] [] m Rt) (writeF men fleet 2 d) (fun _ m => TS men inns fleet m) (minN n men) (fun k _ m hm => TS_writeF hm) (fun k hk m hm => by
      have hle : ¬ minN n men ≤ k := by omega
      have hB : inB (nI (d * 8 + k)) 240 = true := inB8 (by omega) (by decide)
      refine u79_58.trans ?_
      simp (disch := omega) only [u79_0, u79_1, u79_4, u79_7, u79_8, u79_9, u79_12, u79_15, u79_17, u79_18, u79_19, u79_22, u79_23, u79_23v1, u79_23v2, u79_23v3, u79_24, u79_25, u79_26, u79_26v1, u79_26v2, u79_26v3, u79_29, u79_30, u79_33, u79_34, u79_35, u79_38, u79_39, u79_40, u79_40v1, u79_40v2, u79_40v3, u79_43, u79_44, u79_47, u79_50, u79_53, u79_55, u79_56, u79_60, u79_62, u79_65, u79_66, u79_68, u79_69, u79_72, u79_75, u79_76, u79_78, u79_79, u79_81, u79_82, u79_83, u79_83v1, u79_83v2, u79_83v3, u79_86, u79_89, u79_92, u79_94, nI_le8, hle, if_false, s_month hm, pu_some, pu_none, nI_mul8, nI_add, hB, nI_cl8, true_and, s_set2]
      rfl) m h
    refine Eq.trans ?_ (e.trans ?_)
    · have h2 := hs.2
      have hs1 : m 67 2 = nI n := hs.1
      have hlt : (nI men < nI n) = (men < n) := nI_lt8 (by omega) (by omega)
      simp (disch := omega) only [u79_0, u79_1, u79_4, u79_7, u79_8, u79_9, u79_12, u79_15, u79_17, u79_18, u79_19, u79_22, u79_23, u79_23v1, u79_23v2, u79_23v3, u79_24, u79_25, u79_26, u79_26v1, u79_26v2, u79_26v3, u79_29, u79_30, u79_33, u79_34, u79_35, u79_38, u79_39, u79_40, u79_40v1, u79_40v2, u79_40v3, u79_43, u79_44, u79_47, u79_50, u79_53, u79_55, u79_56, u79_60, u79_62, u79_65, u79_66, u79_68, u79_69, u79_72, u79_75, u79_76, u79_78, u79_79, u79_81, u79_82, u79_83, u79_83v1, u79_83v2, u79_83v3, u79_86, u79_89, u79_92, u79_94, s_isDay, s_isOneOf, pu_some, pu_none, b01_e0, hP, and_self, show (nI 0 ≤ nI 2 ∧ nI 2 < nI 4) = True by decide, not_true, if_false, q, hs1, h.1, hlt]
      unfold minN
      by_cases z : n ≤ men
      · have z2 : ¬ men < n := by omega
        simp only [z, z2, if_true, if_false]
      · have z2 : men < n := by omega
        simp only [z, z2, if_true, if_false]
    · refine u79_58.trans ?_
      simp (disch := omega) only [u79_0, u79_1, u79_4, u79_7, u79_8, u79_9, u79_12, u79_15, u79_17, u79_18, u79_19, u79_22, u79_23, u79_23v1, u79_23v2, u79_23v3, u79_24, u79_25, u79_26, u79_26v1, u79_26v2, u79_26v3, u79_29, u79_30, u79_33, u79_34, u79_35, u79_38, u79_39, u79_40, u79_40v1, u79_40v2, u79_40v3, u79_43, u79_44, u79_47, u79_50, u79_53, u79_55, u79_56, u79_60, u79_62, u79_65, u79_66, u79_68, u79_69, u79_72, u79_75, u79_76, u79_78, u79_79, u79_81, u79_82, u79_83, u79_83v1, u79_83v2, u79_83v3, u79_86, u79_89, u79_92, u79_94, nI_le8, Nat.le_refl, if_true]
theorem s_sheet3 {fo n : Int32} : T S (f + 3) 73 0 [some (.ref 0), some (.int (nI 3)), some (.int fo), some (.int n)] [] m Rt = if (nI 0 ≤ fo ∧ fo < nI 3) ∧ n ≤ nI 60 then (if n < nI 0 then Rt (some (.int (-10 - nI 5))) (up m 0 11 (nI 5)) else Rt (some (.int n)) (renewM 3 fo n m)) else Rt (some (.int (-2))) m := by
  by_cases q1 : nI 0 ≤ fo ∧ fo < nI 3
  · by_cases q2 : n ≤ nI 60
    · by_cases q3 : n < nI 0
      · simp only [u73_0, u73_1, u73_2, u73_5, u73_8, u73_9, u73_10, u73_13, u73_16, u73_17, u73_19, u73_22, u73_24, u73_25, u73_26, u73_29, u73_30, u73_31, u73_34, u73_35, u73_36, u73_39, u73_40, u73_40v1, u73_40v2, u73_40v3, u73_41, u73_42, u73_43, u73_43v1, u73_43v2, u73_43v3, u73_46, u73_47, s_isOneOf, pu_some, pu_none, b01_e0, show (nI 0 ≤ nI 3 ∧ nI 3 < nI 4) = True by decide, not_true, if_false, q1, and_self, q2, if_true, le_n (nI 0) n, q3, s_found]
      · simp only [u73_0, u73_1, u73_2, u73_5, u73_8, u73_9, u73_10, u73_13, u73_16, u73_17, u73_19, u73_22, u73_24, u73_25, u73_26, u73_29, u73_30, u73_31, u73_34, u73_35, u73_36, u73_39, u73_40, u73_40v1, u73_40v2, u73_40v3, u73_41, u73_42, u73_43, u73_43v1, u73_43v2, u73_43v3, u73_46, u73_47, s_isOneOf, pu_some, pu_none, b01_e0, show (nI 0 ≤ nI 3 ∧ nI 3 < nI 4) = True by decide, not_true, if_false, q1, and_self, q2, if_true, le_n (nI 0) n, q3, not_false_iff, s_renew3]
    · simp only [u73_0, u73_1, u73_2, u73_5, u73_8, u73_9, u73_10, u73_13, u73_16, u73_17, u73_19, u73_22, u73_24, u73_25, u73_26, u73_29, u73_30, u73_31, u73_34, u73_35, u73_36, u73_39, u73_40, u73_40v1, u73_40v2, u73_40v3, u73_41, u73_42, u73_43, u73_43v1, u73_43v2, u73_43v3, u73_46, u73_47, s_isOneOf, pu_some, pu_none, b01_e0, show (nI 0 ≤ nI 3 ∧ nI 3 < nI 4) = True by decide, not_true, if_false, q1, and_self, q2, and_false]
  · simp only [u73_0, u73_1, u73_2, u73_5, u73_8, u73_9, u73_10, u73_13, u73_16, u73_17, u73_19, u73_22, u73_24, u73_25, u73_26, u73_29, u73_30, u73_31, u73_34, u73_35, u73_36, u73_39, u73_40, u73_40v1, u73_40v2, u73_40v3, u73_41, u73_42, u73_43, u73_43v1, u73_43v2, u73_43v3, u73_46, u73_47, s_isOneOf, pu_some, pu_none, b01_e0, show (nI 0 ≤ nI 3 ∧ nI 3 < nI 4) = True by decide, not_true, if_false, q1, not_false_iff, if_true, false_and]
theorem s_lose3 : T S (f + 3) 74 0 [some (.ref 0), some (.int (nI 3))] [] m Rt = if m 68 1 = -1 then Rt (some (.int (-10 - nI 1))) (up m 0 11 (nI 1)) else Rt (some (.int (m 68 2))) (up m 68 1 (-1)) := by
  by_cases q : m 68 1 = -1
  · simp only [u74_0, u74_1, u74_2, u74_5, u74_8, u74_10, u74_11, u74_12, u74_15, u74_16, u74_16v1, u74_16v2, u74_16v3, u74_17, u74_17v1, u74_17v2, u74_17v3, u74_20, u74_21, u74_24, u74_25, u74_26, u74_29, u74_30, u74_31, u74_34, u74_35, u74_35v1, u74_35v2, u74_35v3, u74_36, u74_37, u74_37v1, u74_37v2, u74_37v3, u74_40, u74_41, u74_44, u74_45, u74_45v1, u74_45v2, u74_45v3, u74_46, u74_46v1, u74_46v2, u74_46v3, u74_49, s_isOneOf, pu_some, pu_none, b01_e0, show (nI 0 ≤ nI 3 ∧ nI 3 < nI 4) = True by decide, not_true, if_false, q, if_true, s_found]
  · simp only [u74_0, u74_1, u74_2, u74_5, u74_8, u74_10, u74_11, u74_12, u74_15, u74_16, u74_16v1, u74_16v2, u74_16v3, u74_17, u74_17v1, u74_17v2, u74_17v3, u74_20, u74_21, u74_24, u74_25, u74_26, u74_29, u74_30, u74_31, u74_34, u74_35, u74_35v1, u74_35v2, u74_35v3, u74_36, u74_37, u74_37v1, u74_37v2, u74_37v3, u74_40, u74_41, u74_44, u74_45, u74_45v1, u74_45v2, u74_45v3, u74_46, u74_46v1, u74_46v2, u74_46v3, u74_49, s_isOneOf, pu_some, pu_none, b01_e0, show (nI 0 ≤ nI 3 ∧ nI 3 < nI 4) = True by decide, not_true, if_false, q, up_ap, upA_ap, Nat.reduceEqDiff, false_and, true_and, and_true, and_false, and_self, if_false, if_true]
theorem s_ref3 {fo i : Int32} : T S (f + 3) 76 0 [some (.ref 0), some (.int (nI 3)), some (.int fo), some (.int i)] [] m Rt = Rt (some (.int (refV 3 fo i m))) (refW 3 fo i m) := by
  unfold refV refW
  by_cases q1 : nI 0 ≤ fo ∧ fo < nI 3
  · by_cases q2 : m 68 1 = -1
    · simp only [u76_0, u76_1, u76_2, u76_5, u76_8, u76_9, u76_10, u76_13, u76_16, u76_18, u76_19, u76_20, u76_23, u76_24, u76_24v1, u76_24v2, u76_24v3, u76_25, u76_25v1, u76_25v2, u76_25v3, u76_28, u76_29, u76_32, u76_33, u76_34, u76_37, u76_38, u76_39, u76_42, u76_43, u76_43v1, u76_43v2, u76_43v3, u76_44, u76_44v1, u76_44v2, u76_44v3, u76_47, u76_48, u76_51, u76_52, u76_53, u76_56, u76_57, u76_58, u76_59, u76_62, u76_63, u76_63v1, u76_63v2, u76_63v3, u76_64, u76_64v1, u76_64v2, u76_64v3, u76_67, u76_70, u76_73, u76_74, u76_77, u76_78, u76_79, u76_82, s_isOneOf, pu_some, pu_none, b01_e0, show (nI 0 ≤ nI 3 ∧ nI 3 < nI 4) = True by decide, not_true, if_false, q1, and_self, q2, if_true, s_found]
    · by_cases q3 : m 68 1 = fo
      · have q5 : ¬ fo = -1 := fun z => q2 (q3.trans z)
        by_cases q4 : nI 0 ≤ i ∧ i < m 68 2
        · simp only [u76_0, u76_1, u76_2, u76_5, u76_8, u76_9, u76_10, u76_13, u76_16, u76_18, u76_19, u76_20, u76_23, u76_24, u76_24v1, u76_24v2, u76_24v3, u76_25, u76_25v1, u76_25v2, u76_25v3, u76_28, u76_29, u76_32, u76_33, u76_34, u76_37, u76_38, u76_39, u76_42, u76_43, u76_43v1, u76_43v2, u76_43v3, u76_44, u76_44v1, u76_44v2, u76_44v3, u76_47, u76_48, u76_51, u76_52, u76_53, u76_56, u76_57, u76_58, u76_59, u76_62, u76_63, u76_63v1, u76_63v2, u76_63v3, u76_64, u76_64v1, u76_64v2, u76_64v3, u76_67, u76_70, u76_73, u76_74, u76_77, u76_78, u76_79, u76_82, s_isOneOf, pu_some, pu_none, b01_e0, show (nI 0 ≤ nI 3 ∧ nI 3 < nI 4) = True by decide, not_true, if_false, q1, and_self, q2, q3, q5, q4, if_true, s_found]
        · simp only [u76_0, u76_1, u76_2, u76_5, u76_8, u76_9, u76_10, u76_13, u76_16, u76_18, u76_19, u76_20, u76_23, u76_24, u76_24v1, u76_24v2, u76_24v3, u76_25, u76_25v1, u76_25v2, u76_25v3, u76_28, u76_29, u76_32, u76_33, u76_34, u76_37, u76_38, u76_39, u76_42, u76_43, u76_43v1, u76_43v2, u76_43v3, u76_44, u76_44v1, u76_44v2, u76_44v3, u76_47, u76_48, u76_51, u76_52, u76_53, u76_56, u76_57, u76_58, u76_59, u76_62, u76_63, u76_63v1, u76_63v2, u76_63v3, u76_64, u76_64v1, u76_64v2, u76_64v3, u76_67, u76_70, u76_73, u76_74, u76_77, u76_78, u76_79, u76_82, s_isOneOf, pu_some, pu_none, b01_e0, show (nI 0 ≤ nI 3 ∧ nI 3 < nI 4) = True by decide, not_true, if_false, q1, and_self, q2, q3, q5, q4, not_false_iff, if_true, s_found]
      · simp only [u76_0, u76_1, u76_2, u76_5, u76_8, u76_9, u76_10, u76_13, u76_16, u76_18, u76_19, u76_20, u76_23, u76_24, u76_24v1, u76_24v2, u76_24v3, u76_25, u76_25v1, u76_25v2, u76_25v3, u76_28, u76_29, u76_32, u76_33, u76_34, u76_37, u76_38, u76_39, u76_42, u76_43, u76_43v1, u76_43v2, u76_43v3, u76_44, u76_44v1, u76_44v2, u76_44v3, u76_47, u76_48, u76_51, u76_52, u76_53, u76_56, u76_57, u76_58, u76_59, u76_62, u76_63, u76_63v1, u76_63v2, u76_63v3, u76_64, u76_64v1, u76_64v2, u76_64v3, u76_67, u76_70, u76_73, u76_74, u76_77, u76_78, u76_79, u76_82, s_isOneOf, pu_some, pu_none, b01_e0, show (nI 0 ≤ nI 3 ∧ nI 3 < nI 4) = True by decide, not_true, if_false, q1, and_self, q2, q3, if_true, s_found]
  · simp only [u76_0, u76_1, u76_2, u76_5, u76_8, u76_9, u76_10, u76_13, u76_16, u76_18, u76_19, u76_20, u76_23, u76_24, u76_24v1, u76_24v2, u76_24v3, u76_25, u76_25v1, u76_25v2, u76_25v3, u76_28, u76_29, u76_32, u76_33, u76_34, u76_37, u76_38, u76_39, u76_42, u76_43, u76_43v1, u76_43v2, u76_43v3, u76_44, u76_44v1, u76_44v2, u76_44v3, u76_47, u76_48, u76_51, u76_52, u76_53, u76_56, u76_57, u76_58, u76_59, u76_62, u76_63, u76_63v1, u76_63v2, u76_63v3, u76_64, u76_64v1, u76_64v2, u76_64v3, u76_67, u76_70, u76_73, u76_74, u76_77, u76_78, u76_79, u76_82, s_isOneOf, pu_some, pu_none, b01_e0, show (nI 0 ≤ nI 3 ∧ nI 3 < nI 4) = True by decide, not_true, if_false, q1, not_false_iff, if_true]
theorem s_put3 {fo i v : Int32} : T S (f + 4) 75 0 [some (.ref 0), some (.int (nI 3)), some (.int fo), some (.int i), some (.int v), none] [] m Rt = if refV 3 fo i m = nI 0 then Rt (some (.int (nI 1))) (setM 3 i v m) else Rt (some (.int (refV 3 fo i m))) (refW 3 fo i m) := by
  by_cases q : refV 3 fo i m = nI 0
  · simp only [u75_0, u75_1, u75_2, u75_3, u75_4, u75_7, u75_9, u75_11, u75_14, u75_16, u75_17, u75_18, u75_21, u75_22, u75_22v1, u75_22v2, u75_22v3, u75_23, u75_24, u75_26, u75_26v1, u75_26v2, u75_26v3, u75_29, u75_30, s_ref3, pu_some, pu_none, q, if_true, (ref_0 q).1, s_set3]
  · simp only [u75_0, u75_1, u75_2, u75_3, u75_4, u75_7, u75_9, u75_11, u75_14, u75_16, u75_17, u75_18, u75_21, u75_22, u75_22v1, u75_22v2, u75_22v3, u75_23, u75_24, u75_26, u75_26v1, u75_26v2, u75_26v3, u75_29, u75_30, s_ref3, pu_some, pu_none, q, if_false]
theorem s_get3 {fo i : Int32} {n : Nat} (h : Sh 3 n m) : T S (f + 4) 77 0 [some (.ref 0), some (.int (nI 3)), some (.int fo), some (.int i)] [] m Rt = if refV 3 fo i m = nI 0 then Rt (some (.int (m 72 i.toNatClampNeg))) m else Rt (some (.int (-2147483648))) (refW 3 fo i m) := by
  by_cases q : refV 3 fo i m = nI 0
  · obtain ⟨q1, q2, q3⟩ := ref_0 q
    have h2 := h.2
    rw [h.1] at q3
    obtain ⟨k, hk, rfl⟩ := P_nI ⟨q2, q3⟩ (by omega)
    have hB : inB (nI k) 60 = true := inB8 (by omega) (by decide)
    simp only [u77_0, u77_1, u77_2, u77_3, u77_4, u77_7, u77_10, u77_11, u77_14, u77_15, u77_15v1, u77_15v2, u77_15v3, u77_16, u77_16v1, u77_16v2, u77_16v3, u77_19, u77_20, u77_20v1, u77_20v2, u77_20v3, u77_21, u77_24, u77_27, s_ref3, pu_some, pu_none, q, if_true, q1, hB, true_and]
  · simp only [u77_0, u77_1, u77_2, u77_3, u77_4, u77_7, u77_10, u77_11, u77_14, u77_15, u77_15v1, u77_15v2, u77_15v3, u77_16, u77_16v1, u77_16v2, u77_16v3, u77_19, u77_20, u77_20v1, u77_20v2, u77_20v3, u77_21, u77_24, u77_27, s_ref3, pu_some, pu_none, q, if_false]
theorem s_write3 (h : TS men inns fleet m) {n d : Nat} (hd : d < 30) (hs : Sh 3 n m) : T S (f + 6) 79 0 [some (.ref 0), some (.int (nI d)), some (.int (nI 3)), none, none, none] [] m Rt = if m 68 1 = -1 then Rt (some (.int (-10 - nI 1))) (up m 0 11 (nI 1)) else Rt (some (.int (nI (minN n men)))) (it (minN n men) (writeF men fleet 3 d) m) := by
  have hP := nI_P hd (by decide)
  have hb := h.2.2.2.1
  by_cases q : m 68 1 = -1
  · simp only [u79_0, u79_1, u79_4, u79_7, u79_8, u79_9, u79_12, u79_15, u79_17, u79_18, u79_19, u79_22, u79_23, u79_23v1, u79_23v2, u79_23v3, u79_24, u79_25, u79_26, u79_26v1, u79_26v2, u79_26v3, u79_29, u79_30, u79_33, u79_34, u79_35, u79_38, u79_39, u79_40, u79_40v1, u79_40v2, u79_40v3, u79_43, u79_44, u79_47, u79_50, u79_53, u79_55, u79_56, u79_60, u79_62, u79_65, u79_66, u79_68, u79_69, u79_72, u79_75, u79_76, u79_78, u79_79, u79_81, u79_82, u79_83, u79_83v1, u79_83v2, u79_83v3, u79_86, u79_89, u79_92, u79_94, s_isDay, s_isOneOf, pu_some, pu_none, b01_e0, hP, and_self, show (nI 0 ≤ nI 3 ∧ nI 3 < nI 4) = True by decide, not_true, if_false, q, if_true, s_found]
  · rw [if_neg q]
    have hmn : minN n men ≤ men := by unfold minN; split <;> omega
    have e := it_run (fun k (m : AMem) => T S (f + 6) 79 58 [some (.ref 0), some (.int (nI d)), some (.int (nI 3)), some (.ref 68), some (.int (nI (minN n men))), some (.int (nI k))] [] m Rt) (writeF men fleet 3 d) (fun _ m => TS men inns fleet m) (minN n men) (fun k _ m hm => TS_writeF hm) (fun k hk m hm => by
      have hle : ¬ minN n men ≤ k := by omega
      have hB : inB (nI (d * 8 + k)) 240 = true := inB8 (by omega) (by decide)
      refine u79_58.trans ?_
      simp (disch := omega) only [u79_0, u79_1, u79_4, u79_7, u79_8, u79_9, u79_12, u79_15, u79_17, u79_18, u79_19, u79_22, u79_23, u79_23v1, u79_23v2, u79_23v3, u79_24, u79_25, u79_26, u79_26v1, u79_26v2, u79_26v3, u79_29, u79_30, u79_33, u79_34, u79_35, u79_38, u79_39, u79_40, u79_40v1, u79_40v2, u79_40v3, u79_43, u79_44, u79_47, u79_50, u79_53, u79_55, u79_56, u79_60, u79_62, u79_65, u79_66, u79_68, u79_69, u79_72, u79_75, u79_76, u79_78, u79_79, u79_81, u79_82, u79_83, u79_83v1, u79_83v2, u79_83v3, u79_86, u79_89, u79_92, u79_94, nI_le8, hle, if_false, s_month hm, pu_some, pu_none, nI_mul8, nI_add, hB, nI_cl8, true_and, s_set3]
      rfl) m h
    refine Eq.trans ?_ (e.trans ?_)
    · have h2 := hs.2
      have hs1 : m 68 2 = nI n := hs.1
      have hlt : (nI men < nI n) = (men < n) := nI_lt8 (by omega) (by omega)
      simp (disch := omega) only [u79_0, u79_1, u79_4, u79_7, u79_8, u79_9, u79_12, u79_15, u79_17, u79_18, u79_19, u79_22, u79_23, u79_23v1, u79_23v2, u79_23v3, u79_24, u79_25, u79_26, u79_26v1, u79_26v2, u79_26v3, u79_29, u79_30, u79_33, u79_34, u79_35, u79_38, u79_39, u79_40, u79_40v1, u79_40v2, u79_40v3, u79_43, u79_44, u79_47, u79_50, u79_53, u79_55, u79_56, u79_60, u79_62, u79_65, u79_66, u79_68, u79_69, u79_72, u79_75, u79_76, u79_78, u79_79, u79_81, u79_82, u79_83, u79_83v1, u79_83v2, u79_83v3, u79_86, u79_89, u79_92, u79_94, s_isDay, s_isOneOf, pu_some, pu_none, b01_e0, hP, and_self, show (nI 0 ≤ nI 3 ∧ nI 3 < nI 4) = True by decide, not_true, if_false, q, hs1, h.1, hlt]
      unfold minN
      by_cases z : n ≤ men
      · have z2 : ¬ men < n := by omega
        simp only [z, z2, if_true, if_false]
      · have z2 : men < n := by omega
        simp only [z, z2, if_true, if_false]
    · refine u79_58.trans ?_
      simp (disch := omega) only [u79_0, u79_1, u79_4, u79_7, u79_8, u79_9, u79_12, u79_15, u79_17, u79_18, u79_19, u79_22, u79_23, u79_23v1, u79_23v2, u79_23v3, u79_24, u79_25, u79_26, u79_26v1, u79_26v2, u79_26v3, u79_29, u79_30, u79_33, u79_34, u79_35, u79_38, u79_39, u79_40, u79_40v1, u79_40v2, u79_40v3, u79_43, u79_44, u79_47, u79_50, u79_53, u79_55, u79_56, u79_60, u79_62, u79_65, u79_66, u79_68, u79_69, u79_72, u79_75, u79_76, u79_78, u79_79, u79_81, u79_82, u79_83, u79_83v1, u79_83v2, u79_83v3, u79_86, u79_89, u79_92, u79_94, nI_le8, Nat.le_refl, if_true]
end SHEETS
