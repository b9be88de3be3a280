/-- the two months and their towns -/
def dd (d t : Nat) : Prop := (d = 30 ∧ t = 8) ∨ (d = 44 ∧ t = 19)
section DAYS
variable {S : AScr} {f : Nat} {m : AMem} {Rt : Option Value → AMem → Prop} {d t : Nat}
theorem s_isSound (hd : dd d t) {k : Nat} (hk : k < 8) : T S (f + 1) 27 0 [some (.ref t), some (.int (nI k))] [] m Rt = Rt (some (.int (b01 (¬ m (t + 1) k = nI 2 ∧ ¬ m (t + 1) k = nI 3)))) m := by
  rcases hd with ⟨rfl, rfl⟩ | ⟨rfl, rfl⟩
  all_goals
    simp (disch := omega) only [u27_0, u27_1, u27_1v1, u27_4, u27_5, u27_5v1, u27_6, u27_7, u27_10, u27_11, u27_11v1, u27_14, u27_15, u27_15v1, u27_16, u27_17, u27_20, u27_21, u27_24, u27_25, nar_z0, nar_z1, inB8 hk, nI_cl8, true_and]
  · by_cases h1 : m 9 k = nI 2 <;> by_cases h2 : m 9 k = nI 3 <;> simp [h1, h2, b01]
  · by_cases h1 : m 20 k = nI 2 <;> by_cases h2 : m 20 k = nI 3 <;> simp [h1, h2, b01]
def costM (t k : Nat) (inn : Nat) (m : AMem) : Int32 := if m (t + 1) k = nI 1 then nI 2 * m (t + 5) inn else if m (t + 1) k = nI 3 then nI 0 else m (t + 5) inn + m (t + 2) k
theorem s_costOf (hd : dd d t) {k j : Nat} (hk : k < 8) (hj : j < 8) : T S (f + 1) 28 0 [some (.ref t), some (.int (nI k)), some (.int (nI j))] [] m Rt = Rt (some (.int (costM t k j m))) m := by
  rcases hd with ⟨rfl, rfl⟩ | ⟨rfl, rfl⟩
  · simp (disch := omega) only [u28_0, u28_1, u28_1v1, u28_4, u28_5, u28_5v1, u28_32, u28_33, u28_34, u28_34v1, u28_37, u28_38, u28_38v1, u28_39, u28_40, u28_41, u28_42, u28_43, u28_44, u28_44v1, u28_47, u28_48, u28_48v1, u28_49, u28_50, u28_50v1, u28_53, u28_54, u28_54v1, u28_55, u28_56, inB8 hk, nI_cl8, true_and]
    unfold costM
    by_cases h1 : m 9 k = nI 1
    · rw [h1]
      simp (disch := omega) only [u28_0, u28_1, u28_1v1, u28_4, u28_5, u28_5v1, u28_6, u28_6v1, u28_6v2, u28_32, u28_33, u28_34, u28_34v1, u28_37, u28_38, u28_38v1, u28_39, u28_40, u28_41, u28_42, u28_43, u28_44, u28_44v1, u28_47, u28_48, u28_48v1, u28_49, u28_50, u28_50v1, u28_53, u28_54, u28_54v1, u28_55, u28_56, inB8 hj, nI_cl8, true_and]
      simp [h1]
    · by_cases h3 : m 9 k = nI 3
      · rw [h3]
        simp (disch := omega) only [u28_0, u28_1, u28_1v1, u28_4, u28_5, u28_5v1, u28_6, u28_6v1, u28_6v2, u28_32, u28_33, u28_34, u28_34v1, u28_37, u28_38, u28_38v1, u28_39, u28_40, u28_41, u28_42, u28_43, u28_44, u28_44v1, u28_47, u28_48, u28_48v1, u28_49, u28_50, u28_50v1, u28_53, u28_54, u28_54v1, u28_55, u28_56]
        simp [h3, show ¬ nI 3 = nI 1 by decide]
      · rw [u28_6v2 h1 h3]
        simp (disch := omega) only [u28_0, u28_1, u28_1v1, u28_4, u28_5, u28_5v1, u28_32, u28_33, u28_34, u28_34v1, u28_37, u28_38, u28_38v1, u28_39, u28_40, u28_41, u28_42, u28_43, u28_44, u28_44v1, u28_47, u28_48, u28_48v1, u28_49, u28_50, u28_50v1, u28_53, u28_54, u28_54v1, u28_55, u28_56, inB8 hj, inB8 hk, nI_cl8, true_and]
        simp [h1, h3]
  · simp (disch := omega) only [u28_0, u28_1, u28_1v1, u28_4, u28_5, u28_5v1, u28_32, u28_33, u28_34, u28_34v1, u28_37, u28_38, u28_38v1, u28_39, u28_40, u28_41, u28_42, u28_43, u28_44, u28_44v1, u28_47, u28_48, u28_48v1, u28_49, u28_50, u28_50v1, u28_53, u28_54, u28_54v1, u28_55, u28_56, inB8 hk, nI_cl8, true_and]
    unfold costM
    by_cases h1 : m 20 k = nI 1
    · rw [h1]
      simp (disch := omega) only [u28_0, u28_1, u28_1v1, u28_4, u28_5, u28_5v1, u28_6, u28_6v1, u28_6v2, u28_32, u28_33, u28_34, u28_34v1, u28_37, u28_38, u28_38v1, u28_39, u28_40, u28_41, u28_42, u28_43, u28_44, u28_44v1, u28_47, u28_48, u28_48v1, u28_49, u28_50, u28_50v1, u28_53, u28_54, u28_54v1, u28_55, u28_56, inB8 hj, nI_cl8, true_and]
      simp [h1]
    · by_cases h3 : m 20 k = nI 3
      · rw [h3]
        simp (disch := omega) only [u28_0, u28_1, u28_1v1, u28_4, u28_5, u28_5v1, u28_6, u28_6v1, u28_6v2, u28_32, u28_33, u28_34, u28_34v1, u28_37, u28_38, u28_38v1, u28_39, u28_40, u28_41, u28_42, u28_43, u28_44, u28_44v1, u28_47, u28_48, u28_48v1, u28_49, u28_50, u28_50v1, u28_53, u28_54, u28_54v1, u28_55, u28_56]
        simp [h3, show ¬ nI 3 = nI 1 by decide]
      · rw [u28_6v2 h1 h3]
        simp (disch := omega) only [u28_0, u28_1, u28_1v1, u28_4, u28_5, u28_5v1, u28_32, u28_33, u28_34, u28_34v1, u28_37, u28_38, u28_38v1, u28_39, u28_40, u28_41, u28_42, u28_43, u28_44, u28_44v1, u28_47, u28_48, u28_48v1, u28_49, u28_50, u28_50v1, u28_53, u28_54, u28_54v1, u28_55, u28_56, inB8 hj, inB8 hk, nI_cl8, true_and]
        simp [h1, h3]
def payM (d t k : Nat) (m : AMem) : AMem := if (nI 0 ≤ m (d + 3) k ∧ m (d + 3) k < nI 8) then
    let inn := (m (d + 3) k).toNatClampNeg
    let cost := costM t k inn m
    let paid := if m (d + 2) k < cost then m (d + 2) k else cost
    let m1 := up m (d + 2) k (m (d + 2) k - paid)
    let m2 := up m1 (d + 5) inn (m (d + 5) inn + paid)
    up m2 (d + 1) k (m (d + 1) k + (cost - paid))
  else m
theorem s_pay (hd : dd d t) {k : Nat} (hk : k < 8) : T S (f + 2) 7 0 [some (.ref d), some (.int (nI k)), none, none, none] [] m Rt = Rt none (payM d t k m) := by
  by_cases h : (nI 0 ≤ m (d + 3) k ∧ m (d + 3) k < nI 8)
  · obtain ⟨j, hj, e⟩ := P_nI h (by decide)
    rcases hd with ⟨rfl, rfl⟩ | ⟨rfl, rfl⟩ <;> simp only [Nat.reduceAdd] at e
    · simp (disch := omega) only [u7_0, u7_1, u7_1v1, u7_4, u7_5, u7_5v1, u7_6, u7_7, u7_8, u7_11, u7_14, u7_15, u7_16, u7_16v1, u7_19, u7_20, u7_21, u7_21v1, u7_24, u7_25, u7_26, u7_27, u7_27v1, u7_30, u7_31, u7_31v1, u7_32, u7_35, u7_37, u7_38, u7_38v1, u7_41, u7_42, u7_43, u7_43v1, u7_44, u7_46, u7_47, u7_47v1, u7_48, u7_49, u7_49v1, u7_52, u7_53, u7_54, u7_54v1, u7_55, u7_57, u7_58, u7_58v1, u7_59, u7_60, u7_60v1, u7_63, u7_64, u7_65, u7_65v1, u7_66, u7_67, u7_69, u7_70, u7_71, u7_71v1, u7_72, s_isHouse, pu_some, pu_none, b01_e0, inB8 hk, nI_cl8, true_and, e, nI_P hj (by decide), not_true, if_false, if_true, s_costOf (Or.inl ⟨rfl, rfl⟩) hk hj, inB8 hj, up_ap]
      simp (disch := omega) [payM, e, nI_P hj, up_ap, nI_cl8]
    · simp (disch := omega) only [u7_0, u7_1, u7_1v1, u7_4, u7_5, u7_5v1, u7_6, u7_7, u7_8, u7_11, u7_14, u7_15, u7_16, u7_16v1, u7_19, u7_20, u7_21, u7_21v1, u7_24, u7_25, u7_26, u7_27, u7_27v1, u7_30, u7_31, u7_31v1, u7_32, u7_35, u7_37, u7_38, u7_38v1, u7_41, u7_42, u7_43, u7_43v1, u7_44, u7_46, u7_47, u7_47v1, u7_48, u7_49, u7_49v1, u7_52, u7_53, u7_54, u7_54v1, u7_55, u7_57, u7_58, u7_58v1, u7_59, u7_60, u7_60v1, u7_63, u7_64, u7_65, u7_65v1, u7_66, u7_67, u7_69, u7_70, u7_71, u7_71v1, u7_72, s_isHouse, pu_some, pu_none, b01_e0, inB8 hk, nI_cl8, true_and, e, nI_P hj (by decide), not_true, if_false, if_true, s_costOf (Or.inr ⟨rfl, rfl⟩) hk hj, inB8 hj, up_ap]
      simp (disch := omega) [payM, e, nI_P hj, up_ap, nI_cl8]
  · rcases hd with ⟨rfl, rfl⟩ | ⟨rfl, rfl⟩ <;> simp only [Nat.reduceAdd] at h
    all_goals
      simp (disch := omega) only [u7_0, u7_1, u7_1v1, u7_4, u7_5, u7_5v1, u7_6, u7_7, u7_8, u7_11, u7_14, u7_15, u7_16, u7_16v1, u7_19, u7_20, u7_21, u7_21v1, u7_24, u7_25, u7_26, u7_27, u7_27v1, u7_30, u7_31, u7_31v1, u7_32, u7_35, u7_37, u7_38, u7_38v1, u7_41, u7_42, u7_43, u7_43v1, u7_44, u7_46, u7_47, u7_47v1, u7_48, u7_49, u7_49v1, u7_52, u7_53, u7_54, u7_54v1, u7_55, u7_57, u7_58, u7_58v1, u7_59, u7_60, u7_60v1, u7_63, u7_64, u7_65, u7_65v1, u7_66, u7_67, u7_69, u7_70, u7_71, u7_71v1, u7_72, s_isHouse, pu_some, pu_none, b01_e0, inB8 hk, nI_cl8, true_and, h, not_false_iff, if_true]
      simp [payM, h]
def boardM (d t k s : Nat) (day : Int32) (m : AMem) : AMem :=
  let m1 := if (nI 0 ≤ m (d + 3) k ∧ m (d + 3) k < nI 8) then up m (d + 5) (m (d + 3) k).toNatClampNeg (m (d + 5) (m (d + 3) k).toNatClampNeg + nI 10 * (if m t 3 < m (t + 9) s then m t 3 else m (t + 9) s)) else m
  up (up (up (up m1 (d + 9) s (m (d + 9) s ||| (nI 1 <<< (nI k &&& 31)))) (d + 1) k (nI 0)) (d + 3) k (nI 8 + nI s)) (d + 4) k day
theorem s_board (hd : dd d t) {k s : Nat} {day : Int32} (hk : k < 8) (hs : s < 6) : T S (f + 2) 6 0 [some (.ref d), some (.int (nI k)), some (.int (nI s)), some (.int day)] [] m Rt = Rt none (boardM d t k s day m) := by
  by_cases h : (nI 0 ≤ m (d + 3) k ∧ m (d + 3) k < nI 8)
  · obtain ⟨j, hj, e⟩ := P_nI h (by decide)
    rcases hd with ⟨rfl, rfl⟩ | ⟨rfl, rfl⟩ <;> simp only [Nat.reduceAdd] at e
    all_goals
      simp (disch := omega) only [u6_0, u6_1, u6_1v1, u6_4, u6_5, u6_5v1, u6_6, u6_9, u6_12, u6_13, u6_13v1, u6_16, u6_17, u6_17v1, u6_20, u6_21, u6_21v1, u6_22, u6_23, u6_23v1, u6_24, u6_26, u6_27, u6_27v1, u6_30, u6_30v1, u6_33, u6_34, u6_34v1, u6_35, u6_36, u6_36v1, u6_39, u6_39v1, u6_42, u6_45, u6_46, u6_47, u6_47v1, u6_48, u6_49, u6_49v1, u6_52, u6_53, u6_54, u6_54v1, u6_55, u6_56, u6_57, u6_58, u6_59, u6_59v1, u6_60, u6_61, u6_61v1, u6_64, u6_65, u6_66, u6_66v1, u6_67, u6_68, u6_68v1, u6_71, u6_72, u6_74, u6_75, u6_76, u6_76v1, u6_77, u6_78, u6_78v1, u6_81, u6_82, u6_83, u6_83v1, u6_84, s_isHouse, pu_some, pu_none, b01_e0, inB8 hk, inB8 hs, nI_cl8, true_and, e, nI_P hj (by decide), not_true, if_false, if_true, inB8 hj, up_ap]
      simp (disch := omega) [boardM, e, nI_P hj, up_ap, nI_cl8]
  · rcases hd with ⟨rfl, rfl⟩ | ⟨rfl, rfl⟩ <;> simp only [Nat.reduceAdd] at h
    all_goals
      simp (disch := omega) only [u6_0, u6_1, u6_1v1, u6_4, u6_5, u6_5v1, u6_6, u6_9, u6_12, u6_13, u6_13v1, u6_16, u6_17, u6_17v1, u6_20, u6_21, u6_21v1, u6_22, u6_23, u6_23v1, u6_24, u6_26, u6_27, u6_27v1, u6_30, u6_30v1, u6_33, u6_34, u6_34v1, u6_35, u6_36, u6_36v1, u6_39, u6_39v1, u6_42, u6_45, u6_46, u6_47, u6_47v1, u6_48, u6_49, u6_49v1, u6_52, u6_53, u6_54, u6_54v1, u6_55, u6_56, u6_57, u6_58, u6_59, u6_59v1, u6_60, u6_61, u6_61v1, u6_64, u6_65, u6_66, u6_66v1, u6_67, u6_68, u6_68v1, u6_71, u6_72, u6_74, u6_75, u6_76, u6_76v1, u6_77, u6_78, u6_78v1, u6_81, u6_82, u6_83, u6_83v1, u6_84, s_isHouse, pu_some, pu_none, b01_e0, inB8 hk, inB8 hs, nI_cl8, true_and, h, not_false_iff, if_true, up_ap]
      simp [boardM, h, up_ap]
/-- who owes most: the number and how much -/
def deepM (d men : Nat) (passed : Int32) (m : AMem) : Option Nat × Int32 := it men (fun k (s : Option Nat × Int32) => if (nI 0 ≤ m (d + 3) k ∧ m (d + 3) k < nI 8) ∧ (passed >>> (nI k &&& 31)) &&& nI 1 = nI 0 ∧ s.2 < m (d + 1) k then (some k, m (d + 1) k) else s) (none, nI 0)
theorem s_deep (hd : dd d t) {men : Nat} (hm : m t 0 = nI men) (h8 : men ≤ 8) {passed : Int32} : T S (f + 2) 4 0 [some (.ref d), some (.int passed), none, none, none, none] [] m Rt = Rt (some (.int (optI (deepM d men passed m).1))) m := by
  obtain ⟨l2, e⟩ := it_runL (fun k (s : Option Nat × Int32) (l : Option Value) => T S (f + 2) 4 7 [some (.ref d), some (.int passed), some (.int (optI s.1)), some (.int s.2), some (.int (nI k)), l] [] m Rt)
      (fun k (s : Option Nat × Int32) => if (nI 0 ≤ m (d + 3) k ∧ m (d + 3) k < nI 8) ∧ (passed >>> (nI k &&& 31)) &&& nI 1 = nI 0 ∧ s.2 < m (d + 1) k then (some k, m (d + 1) k) else s) (fun _ _ => True) men (fun _ _ _ _ => trivial)
      (fun k hk s l _ => by
        refine ⟨some (.int (b01 ((nI 0 ≤ m (d + 3) k ∧ m (d + 3) k < nI 8) ∧ (passed >>> (nI k &&& 31)) &&& nI 1 = nI 0))), ?_⟩
        have hk8 : k < 8 := by omega
        have hkm : ¬ men ≤ k := by omega
        rcases hd with ⟨rfl, rfl⟩ | ⟨rfl, rfl⟩
        · simp only [Nat.reduceAdd]
          rw [u4_7]
          by_cases h1 : (nI 0 ≤ m 33 k ∧ m 33 k < nI 8) <;> by_cases h2 : (passed >>> (nI k &&& 31)) &&& nI 1 = nI 0 <;> by_cases h3 : s.2 < m 31 k
          all_goals
            simp (disch := omega) only [u4_0, u4_1, u4_2, u4_3, u4_4, u4_5, u4_9, u4_10, u4_10v1, u4_13, u4_13v1, u4_16, u4_19, u4_20, u4_20v1, u4_23, u4_25, u4_25v1, u4_26, u4_29, u4_32, u4_33, u4_35, u4_36, u4_37, u4_38, u4_41, u4_42, u4_45, u4_46, u4_48, u4_50, u4_53, u4_54, u4_54v1, u4_57, u4_59, u4_59v1, u4_60, u4_61, u4_64, u4_66, u4_67, u4_68, u4_68v1, u4_71, u4_73, u4_73v1, u4_74, u4_75, u4_78, u4_81, u4_82, hm, nI_le8, hkm, if_false, s_isHouse, pu_some, pu_none, b01_e0, inB8 hk8, nI_cl8, true_and, h1, h2, h3, not_false_iff, if_true, not_true, and_true, and_false, and_self, false_and, le_n (m 31 k) s.2, nI_add, optI_some, b01, show ¬ nI 1 = nI 0 by decide]
        · simp only [Nat.reduceAdd]
          rw [u4_7]
          by_cases h1 : (nI 0 ≤ m 47 k ∧ m 47 k < nI 8) <;> by_cases h2 : (passed >>> (nI k &&& 31)) &&& nI 1 = nI 0 <;> by_cases h3 : s.2 < m 45 k
          all_goals
            simp (disch := omega) only [u4_0, u4_1, u4_2, u4_3, u4_4, u4_5, u4_9, u4_10, u4_10v1, u4_13, u4_13v1, u4_16, u4_19, u4_20, u4_20v1, u4_23, u4_25, u4_25v1, u4_26, u4_29, u4_32, u4_33, u4_35, u4_36, u4_37, u4_38, u4_41, u4_42, u4_45, u4_46, u4_48, u4_50, u4_53, u4_54, u4_54v1, u4_57, u4_59, u4_59v1, u4_60, u4_61, u4_64, u4_66, u4_67, u4_68, u4_68v1, u4_71, u4_73, u4_73v1, u4_74, u4_75, u4_78, u4_81, u4_82, hm, nI_le8, hkm, if_false, s_isHouse, pu_some, pu_none, b01_e0, inB8 hk8, nI_cl8, true_and, h1, h2, h3, not_false_iff, if_true, not_true, and_true, and_false, and_self, false_and, le_n (m 45 k) s.2, nI_add, optI_some, b01, show ¬ nI 1 = nI 0 by decide]) (none, nI 0) none trivial
  refine Eq.trans ?_ (e.trans ?_)
  · simp only [u4_0, u4_1, u4_2, u4_3, u4_4, u4_5, optI_none]
  · rw [u4_7]
    rcases hd with ⟨rfl, rfl⟩ | ⟨rfl, rfl⟩
    all_goals
      simp (disch := omega) only [u4_0, u4_1, u4_2, u4_3, u4_4, u4_5, u4_9, u4_10, u4_10v1, u4_13, u4_13v1, u4_16, u4_19, u4_20, u4_20v1, u4_23, u4_25, u4_25v1, u4_26, u4_29, u4_32, u4_33, u4_35, u4_36, u4_37, u4_38, u4_41, u4_42, u4_45, u4_46, u4_48, u4_50, u4_53, u4_54, u4_54v1, u4_57, u4_59, u4_59v1, u4_60, u4_61, u4_64, u4_66, u4_67, u4_68, u4_68v1, u4_71, u4_73, u4_73v1, u4_74, u4_75, u4_78, u4_81, u4_82, hm, nI_le8, Nat.le_refl, if_true]
      rfl
/-- leading zeros, as the library's method counts them -/
def nlzM (x : Int32) : Int32 :=
  let us : Int32 → Int32 → Int32 := fun a b => (a.toUInt32 >>> (b.toUInt32 &&& Int32.toUInt32 31)).toInt32
  if nI 0 < x then
    let a1 := if x < 65536 then (nI 31, x) else (nI 31 + (-16), us x (nI 16))
    let a2 := if a1.2 < nI 256 then a1 else (a1.1 + (-8), us a1.2 (nI 8))
    let a3 := if a2.2 < nI 16 then a2 else (a2.1 + (-4), us a2.2 (nI 4))
    let a4 := if a3.2 < nI 4 then a3 else (a3.1 + (-2), us a3.2 (nI 2))
    a4.1 - us a4.2 (nI 1)
  else if x = nI 0 then nI 32 else nI 0
theorem s_nlz {x : Int32} : T S (f + 1) 190 0 [some (.int x), none] [] m Rt = Rt (some (.int (nlzM x))) m := by
  simp only [u190_0, u190_1, u190_4, u190_5, u190_8, u190_10, u190_13, u190_14, u190_15, u190_17, u190_18, u190_19, u190_22, u190_25, u190_28, u190_29, u190_31, u190_32, u190_33, u190_34, u190_37, u190_40, u190_43, u190_44, u190_46, u190_47, u190_48, u190_49, u190_51, u190_54, u190_57, u190_58, u190_59, u190_60, u190_61, u190_62, u190_63, u190_66, u190_69, u190_70, u190_71, u190_72, u190_73, u190_74, u190_75, u190_76, u190_77, u190_78]
  unfold nlzM
  by_cases h0 : nI 0 < x
  · simp only [h0, if_true]
    by_cases h1 : x < 65536
    · simp only [h1, if_true]
      by_cases h2 : x < nI 256
      · simp only [h2, if_true]
        by_cases h3 : x < nI 16
        · simp only [h3, if_true]
          split <;> rfl
        · simp only [h3, if_false]
          split <;> rfl
      · simp only [h2, if_false]
        split
        · simp only [*, if_true]
          split <;> simp only [*, if_true, if_false]
        · simp only [*, if_false]
          split <;> simp only [*, if_true, if_false]
    · simp only [h1, if_false]
      repeat' split
      all_goals (first | rfl | simp_all)
  · simp only [h0, if_false]
    by_cases h1 : x = nI 0
    · simp [h1]
    · simp [h1]
/-- one that is taken -/
def takeM (d t s : Nat) (day : Int32) (n k : Nat) (m : AMem) : AMem :=
  let m1 := up m (d + 7) s (m (d + 7) s ||| (nI 1 <<< (nI k &&& 31)))
  if nI n < m (t + 10) s ∧ (m (t + 1) k = nI 2 ∨ m (t + 1) k = nI 3) then up m1 (d + 8) s (m (d + 8) s ||| (nI 1 <<< (nI k &&& 31))) else boardM d t k s day m1
def depL (d t men s : Nat) (day : Int32) : Nat → Nat → AMem → AMem
  | 0, _, m => m
  | r + 1, n, m => if nI n < m (t + 8) s then (match (deepM d men (m (d + 7) s) m).1 with
    | none => m
    | some k => depL d t men s day r (n + 1) (takeM d t s day n k m)) else m
def depE (d s : Nat) (m : AMem) : AMem := if m (d + 9) s = nI 0 then m else up m d 14 (nI 31 - nlzM (m (d + 9) s))
theorem deep_lt {men : Nat} {passed : Int32} {k : Nat} (h : (deepM d men passed m).1 = some k) : k < men := by
  have h1 := it_I (fun k (s : Option Nat × Int32) => if (nI 0 ≤ m (d + 3) k ∧ m (d + 3) k < nI 8) ∧ (passed >>> (nI k &&& 31)) &&& nI 1 = nI 0 ∧ s.2 < m (d + 1) k then (some k, m (d + 1) k) else s) (fun n s => ∀ j, s.1 = some j → j < n) men (fun k hk s hs j hj => by
    split at hj
    · cases hj; omega
    · exact Nat.lt_succ_of_lt (hs j hj)) (none, nI 0) (fun j hj => by cases hj) men (Nat.le_refl _)
  exact h1 k h
theorem boardM_t {k s : Nat} {day : Int32} {a j : Nat} (h : a < d ∨ d + 14 ≤ a) : boardM d t k s day m a j = m a j := by
  unfold boardM
  split <;> simp only [up_ap] <;> repeat' (split <;> try omega)
  all_goals rfl
theorem takeM_t {s n k : Nat} {day : Int32} {a j : Nat} (h : a < d ∨ d + 14 ≤ a) : takeM d t s day n k m a j = m a j := by
  unfold takeM
  split
  · simp only [up_ap]
    rw [if_neg (by omega), if_neg (by omega)]
  · rw [boardM_t h, up_ap, if_neg (by omega)]
theorem dd_t (hd : dd d t) : t < d ∨ d + 14 ≤ t := by
  rcases hd with ⟨rfl, rfl⟩ | ⟨rfl, rfl⟩ <;> omega
theorem s_dep (hd : dd d t) {men s : Nat} {day : Int32} (hs : s < 6) (h8 : men ≤ 8) : ∀ (r n : Nat) (m : AMem) (l4 : Option Value), n + r = 8 → m t 0 = nI men → T S (f + 3) 3 2 [some (.ref d), some (.int (nI s)), some (.int day), some (.int (nI n)), l4] [] m Rt = Rt none (depE d s (depL d t men s day r n m)) := by
  have hex : ∀ (m : AMem) (x3 : Int32) (l4 : Option Value), T S (f + 3) 3 110 [some (.ref d), some (.int (nI s)), some (.int day), some (.int x3), l4] [] m Rt = Rt none (depE d s m) := by
    intro m x3 l4
    rcases hd with ⟨rfl, rfl⟩ | ⟨rfl, rfl⟩
    all_goals
      simp (disch := omega) only [u3_0, u3_1, u3_3, u3_5, u3_8, u3_9, u3_10, u3_10v1, u3_13, u3_13v1, u3_16, u3_17, u3_17v1, u3_18, u3_21, u3_22, u3_23, u3_23v1, u3_26, u3_27, u3_27v1, u3_28, u3_28v1, u3_31, u3_33, u3_35, u3_36, u3_39, u3_42, u3_43, u3_43v1, u3_46, u3_47, u3_48, u3_48v1, u3_49, u3_50, u3_52, u3_53, u3_54, u3_54v1, u3_55, u3_56, u3_57, u3_57v1, u3_60, u3_60v1, u3_63, u3_64, u3_64v1, u3_65, u3_68, u3_69, u3_69v1, u3_72, u3_74, u3_74v1, u3_77, u3_80, u3_81, u3_81v1, u3_84, u3_85, u3_86, u3_86v1, u3_87, u3_88, u3_90, u3_91, u3_92, u3_92v1, u3_93, u3_96, u3_97, u3_99, u3_100, u3_101, u3_101v1, u3_104, u3_107, u3_110, u3_111, u3_111v1, u3_114, u3_115, u3_115v1, u3_116, u3_119, u3_120, u3_122, u3_123, u3_123v1, u3_126, u3_127, u3_127v1, u3_128, u3_131, u3_132, u3_132v1, u3_135, inB8 hs, nI_cl8, true_and, s_nlz, pu_some, pu_none]
      unfold depE
      simp only [Nat.reduceAdd]
      split <;> rfl
  intro r
  induction r with
  | zero =>
    intro n m l4 hn hm
    rw [u3_2]
    have h : 8 ≤ n := by omega
    simp (disch := omega) only [u3_3, u3_5, nI_le8, h, if_true, hex]
    rfl
  | succ r ih =>
    intro n m l4 hn hm
    have h : ¬ 8 ≤ n := by omega
    rw [u3_2]
    unfold depL
    by_cases h1 : nI n < m (t + 8) s
    · rw [if_pos h1]
      cases h2 : (deepM d men (m (d + 7) s) m).1 with
      | none =>
        rcases hd with ⟨rfl, rfl⟩ | ⟨rfl, rfl⟩ <;> simp only [Nat.reduceAdd] at h1 h2
        · simp (disch := omega) only [u3_0, u3_1, u3_3, u3_5, u3_8, u3_9, u3_10, u3_10v1, u3_13, u3_13v1, u3_16, u3_17, u3_17v1, u3_18, u3_21, u3_22, u3_23, u3_23v1, u3_26, u3_27, u3_27v1, u3_28, u3_28v1, u3_31, u3_33, u3_35, u3_36, u3_39, u3_42, u3_43, u3_43v1, u3_46, u3_47, u3_48, u3_48v1, u3_49, u3_50, u3_52, u3_53, u3_54, u3_54v1, u3_55, u3_56, u3_57, u3_57v1, u3_60, u3_60v1, u3_63, u3_64, u3_64v1, u3_65, u3_68, u3_69, u3_69v1, u3_72, u3_74, u3_74v1, u3_77, u3_80, u3_81, u3_81v1, u3_84, u3_85, u3_86, u3_86v1, u3_87, u3_88, u3_90, u3_91, u3_92, u3_92v1, u3_93, u3_96, u3_97, u3_99, u3_100, u3_101, u3_101v1, u3_104, u3_107, u3_111, u3_111v1, u3_114, u3_115, u3_115v1, u3_116, u3_119, u3_120, u3_122, u3_123, u3_123v1, u3_126, u3_127, u3_127v1, u3_128, u3_131, u3_132, u3_132v1, u3_135, nI_le8, h, if_false, inB8 hs, nI_cl8, true_and, le_n (m 16 s) (nI n), h1, not_true, s_deep (Or.inl ⟨rfl, rfl⟩) hm h8, pu_some, pu_none, h2, optI_none, if_true, hex]
        · simp (disch := omega) only [u3_0, u3_1, u3_3, u3_5, u3_8, u3_9, u3_10, u3_10v1, u3_13, u3_13v1, u3_16, u3_17, u3_17v1, u3_18, u3_21, u3_22, u3_23, u3_23v1, u3_26, u3_27, u3_27v1, u3_28, u3_28v1, u3_31, u3_33, u3_35, u3_36, u3_39, u3_42, u3_43, u3_43v1, u3_46, u3_47, u3_48, u3_48v1, u3_49, u3_50, u3_52, u3_53, u3_54, u3_54v1, u3_55, u3_56, u3_57, u3_57v1, u3_60, u3_60v1, u3_63, u3_64, u3_64v1, u3_65, u3_68, u3_69, u3_69v1, u3_72, u3_74, u3_74v1, u3_77, u3_80, u3_81, u3_81v1, u3_84, u3_85, u3_86, u3_86v1, u3_87, u3_88, u3_90, u3_91, u3_92, u3_92v1, u3_93, u3_96, u3_97, u3_99, u3_100, u3_101, u3_101v1, u3_104, u3_107, u3_111, u3_111v1, u3_114, u3_115, u3_115v1, u3_116, u3_119, u3_120, u3_122, u3_123, u3_123v1, u3_126, u3_127, u3_127v1, u3_128, u3_131, u3_132, u3_132v1, u3_135, nI_le8, h, if_false, inB8 hs, nI_cl8, true_and, le_n (m 27 s) (nI n), h1, not_true, s_deep (Or.inr ⟨rfl, rfl⟩) hm h8, pu_some, pu_none, h2, optI_none, if_true, hex]
      | some k =>
        have hk := deep_lt h2
        have hk8 : k < 8 := by omega
        have hT : takeM d t s day n k m t 0 = nI men := by rw [takeM_t (dd_t hd)]; exact hm
        have ih2 := fun l4 => ih (n + 1) (takeM d t s day n k m) l4 (by omega) hT
        have ht : {j : Nat} → True → True := fun _ => trivial
        rcases hd with ⟨rfl, rfl⟩ | ⟨rfl, rfl⟩ <;> simp only [Nat.reduceAdd] at h1 h2
        · simp (disch := omega) only [u3_0, u3_1, u3_3, u3_5, u3_8, u3_9, u3_10, u3_10v1, u3_13, u3_13v1, u3_16, u3_17, u3_17v1, u3_18, u3_21, u3_22, u3_23, u3_23v1, u3_26, u3_27, u3_27v1, u3_28, u3_28v1, u3_31, u3_33, u3_35, u3_36, u3_39, u3_42, u3_43, u3_43v1, u3_46, u3_47, u3_48, u3_48v1, u3_49, u3_50, u3_52, u3_53, u3_54, u3_54v1, u3_55, u3_56, u3_57, u3_57v1, u3_60, u3_60v1, u3_63, u3_64, u3_64v1, u3_65, u3_68, u3_69, u3_69v1, u3_72, u3_74, u3_74v1, u3_77, u3_80, u3_81, u3_81v1, u3_84, u3_85, u3_86, u3_86v1, u3_87, u3_88, u3_90, u3_91, u3_92, u3_92v1, u3_93, u3_96, u3_97, u3_99, u3_100, u3_101, u3_101v1, u3_104, u3_107, u3_111, u3_111v1, u3_114, u3_115, u3_115v1, u3_116, u3_119, u3_120, u3_122, u3_123, u3_123v1, u3_126, u3_127, u3_127v1, u3_128, u3_131, u3_132, u3_132v1, u3_135, nI_le8, h, if_false, inB8 hs, nI_cl8, true_and, le_n (m 16 s) (nI n), h1, not_true, s_deep (Or.inl ⟨rfl, rfl⟩) hm h8, pu_some, pu_none, h2, optI_some, nI_ne1, if_false, s_isSound (Or.inl ⟨rfl, rfl⟩) hk8, s_board (Or.inl ⟨rfl, rfl⟩) hk8 hs, b01_e0, up_ap, upA_ap, Nat.reduceEqDiff, false_and, true_and, and_true, and_false, and_self, if_false, if_true, nI_add, le_n (m 18 s) (nI n)]
          simp only [takeM, Nat.reduceAdd] at ih2 ⊢
          by_cases h3 : nI n < m 18 s <;> by_cases h4 : m 9 k = nI 2 <;> by_cases h5 : m 9 k = nI 3
          all_goals
            simp only [h3, h4, h5, not_true, not_false_iff, true_and, and_true, false_and, and_false, and_self, true_or, or_true, or_self, false_or, or_false, if_true, if_false, show ¬ nI 2 = nI 3 by decide, show ¬ nI 3 = nI 2 by decide] at ih2 ⊢
            first | exact ih2 _ | skip
        · simp (disch := omega) only [u3_0, u3_1, u3_3, u3_5, u3_8, u3_9, u3_10, u3_10v1, u3_13, u3_13v1, u3_16, u3_17, u3_17v1, u3_18, u3_21, u3_22, u3_23, u3_23v1, u3_26, u3_27, u3_27v1, u3_28, u3_28v1, u3_31, u3_33, u3_35, u3_36, u3_39, u3_42, u3_43, u3_43v1, u3_46, u3_47, u3_48, u3_48v1, u3_49, u3_50, u3_52, u3_53, u3_54, u3_54v1, u3_55, u3_56, u3_57, u3_57v1, u3_60, u3_60v1, u3_63, u3_64, u3_64v1, u3_65, u3_68, u3_69, u3_69v1, u3_72, u3_74, u3_74v1, u3_77, u3_80, u3_81, u3_81v1, u3_84, u3_85, u3_86, u3_86v1, u3_87, u3_88, u3_90, u3_91, u3_92, u3_92v1, u3_93, u3_96, u3_97, u3_99, u3_100, u3_101, u3_101v1, u3_104, u3_107, u3_111, u3_111v1, u3_114, u3_115, u3_115v1, u3_116, u3_119, u3_120, u3_122, u3_123, u3_123v1, u3_126, u3_127, u3_127v1, u3_128, u3_131, u3_132, u3_132v1, u3_135, nI_le8, h, if_false, inB8 hs, nI_cl8, true_and, le_n (m 27 s) (nI n), h1, not_true, s_deep (Or.inr ⟨rfl, rfl⟩) hm h8, pu_some, pu_none, h2, optI_some, nI_ne1, if_false, s_isSound (Or.inr ⟨rfl, rfl⟩) hk8, s_board (Or.inr ⟨rfl, rfl⟩) hk8 hs, b01_e0, up_ap, upA_ap, Nat.reduceEqDiff, false_and, true_and, and_true, and_false, and_self, if_false, if_true, nI_add, le_n (m 29 s) (nI n)]
          simp only [takeM, Nat.reduceAdd] at ih2 ⊢
          by_cases h3 : nI n < m 29 s <;> by_cases h4 : m 20 k = nI 2 <;> by_cases h5 : m 20 k = nI 3
          all_goals
            simp only [h3, h4, h5, not_true, not_false_iff, true_and, and_true, false_and, and_false, and_self, true_or, or_true, or_self, false_or, or_false, if_true, if_false, show ¬ nI 2 = nI 3 by decide, show ¬ nI 3 = nI 2 by decide] at ih2 ⊢
            first | exact ih2 _ | skip
    · rw [if_neg h1]
      rcases hd with ⟨rfl, rfl⟩ | ⟨rfl, rfl⟩ <;> simp only [Nat.reduceAdd] at h1
      · simp (disch := omega) only [u3_0, u3_1, u3_3, u3_5, u3_8, u3_9, u3_10, u3_10v1, u3_13, u3_13v1, u3_16, u3_17, u3_17v1, u3_18, u3_21, u3_22, u3_23, u3_23v1, u3_26, u3_27, u3_27v1, u3_28, u3_28v1, u3_31, u3_33, u3_35, u3_36, u3_39, u3_42, u3_43, u3_43v1, u3_46, u3_47, u3_48, u3_48v1, u3_49, u3_50, u3_52, u3_53, u3_54, u3_54v1, u3_55, u3_56, u3_57, u3_57v1, u3_60, u3_60v1, u3_63, u3_64, u3_64v1, u3_65, u3_68, u3_69, u3_69v1, u3_72, u3_74, u3_74v1, u3_77, u3_80, u3_81, u3_81v1, u3_84, u3_85, u3_86, u3_86v1, u3_87, u3_88, u3_90, u3_91, u3_92, u3_92v1, u3_93, u3_96, u3_97, u3_99, u3_100, u3_101, u3_101v1, u3_104, u3_107, u3_111, u3_111v1, u3_114, u3_115, u3_115v1, u3_116, u3_119, u3_120, u3_122, u3_123, u3_123v1, u3_126, u3_127, u3_127v1, u3_128, u3_131, u3_132, u3_132v1, u3_135, nI_le8, h, if_false, inB8 hs, nI_cl8, true_and, le_n (m 16 s) (nI n), h1, not_false_iff, if_true, hex]
      · simp (disch := omega) only [u3_0, u3_1, u3_3, u3_5, u3_8, u3_9, u3_10, u3_10v1, u3_13, u3_13v1, u3_16, u3_17, u3_17v1, u3_18, u3_21, u3_22, u3_23, u3_23v1, u3_26, u3_27, u3_27v1, u3_28, u3_28v1, u3_31, u3_33, u3_35, u3_36, u3_39, u3_42, u3_43, u3_43v1, u3_46, u3_47, u3_48, u3_48v1, u3_49, u3_50, u3_52, u3_53, u3_54, u3_54v1, u3_55, u3_56, u3_57, u3_57v1, u3_60, u3_60v1, u3_63, u3_64, u3_64v1, u3_65, u3_68, u3_69, u3_69v1, u3_72, u3_74, u3_74v1, u3_77, u3_80, u3_81, u3_81v1, u3_84, u3_85, u3_86, u3_86v1, u3_87, u3_88, u3_90, u3_91, u3_92, u3_92v1, u3_93, u3_96, u3_97, u3_99, u3_100, u3_101, u3_101v1, u3_104, u3_107, u3_111, u3_111v1, u3_114, u3_115, u3_115v1, u3_116, u3_119, u3_120, u3_122, u3_123, u3_123v1, u3_126, u3_127, u3_127v1, u3_128, u3_131, u3_132, u3_132v1, u3_135, nI_le8, h, if_false, inB8 hs, nI_cl8, true_and, le_n (m 27 s) (nI n), h1, not_false_iff, if_true, hex]
end DAYS
