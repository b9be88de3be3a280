section MNEXT
variable {S : AScr} {f : Nat} {m : AMem} {Rt : Option Value → AMem → Prop}
/-- who is taken next on the other side -/
def nextC (s : Nat) (m : AMem) (k : Nat) (best : Option Nat) : Bool := decide ((nI 0 ≤ m 88 k ∧ m 88 k < nI 8) ∧ nI 0 < m 86 k ∧ ¬ (m 90 s >>> (nI k &&& 31)) &&& nI 1 = nI 1) && (match best with | none => true | some j => decide (m 86 j < m 86 k))
def nextM (men s : Nat) (m : AMem) : Option Nat := it men (fun k best => if nextC s m k best = true then some k else best) none
theorem next_lt {men s : Nat} {j : Nat} (h : nextM men s m = some j) : j < men := by
  have key := it_I (fun k best => if nextC s m k best = true then some k else best) (fun n (b : Option Nat) => ∀ j, b = some j → j < n) men (fun k _ b hb j hj => by
    split at hj
    · have : k = j := Option.some.inj hj
      omega
    · have := hb j hj
      omega) none (fun j hj => by cases hj) men (Nat.le_refl _)
  exact key j h
set_option maxHeartbeats 1000000 in
theorem s_mNext {men s : Nat} (hm : m 73 2 = nI men) (h8 : men ≤ 8) (hs : s < 6) : T S (f + 2) 120 0 [some (.ref 73), some (.int (nI s)), none, none, none] [] m Rt = Rt (some (.int (optI (nextM men s m)))) m := by
  have hBs : inB (nI s) 6 = true := inB8 hs (by decide)
  have hcs : (nI s).toNatClampNeg = s := nI_cl8 (by omega)
  have e := it_runL (fun k (b : Option Nat) (l : Option Value) => T S (f + 2) 120 4 [some (.ref 73), some (.int (nI s)), some (.int (optI b)), some (.int (nI k)), l] [] m Rt) (fun k best => if nextC s m k best = true then some k else best) (fun _ b => ∀ j, b = some j → j < 8) men (fun k hk b hb j hj => by
      split at hj
      · have : k = j := Option.some.inj hj
        omega
      · exact hb j hj) (fun k hk b l hb => by
    have hkm : ¬ men ≤ k := by omega
    have hB : inB (nI k) 8 = true := inB8 (by omega) (by decide)
    have hc : (nI k).toNatClampNeg = k := nI_cl8 (by omega)
    have hle : (nI men ≤ nI k) = False := by rw [nI_le8 (by omega) (by omega)]; exact eq_false hkm
    have e7 : (m 88 k ≤ nI 7) = (m 88 k < nI 8) := le_lt1 (by decide)
    have z1 : ¬ nI 1 = nI 0 := by decide
    unfold nextC
    by_cases q1 : nI 0 ≤ m 88 k ∧ m 88 k < nI 8
    · by_cases q2 : nI 0 < m 86 k
      · by_cases q3 : (m 90 s >>> (nI k &&& 31)) &&& nI 1 = nI 1
        · refine ⟨some (.int (nI 0)), u120_4.trans ?_⟩
          have dq : decide ((nI 0 ≤ m 88 k ∧ m 88 k < nI 8) ∧ nI 0 < m 86 k ∧ ¬ (m 90 s >>> (nI k &&& 31)) &&& nI 1 = nI 1) = false := decide_eq_false (fun z => z.2.2 q3)
          rw [dq, Bool.false_and, if_neg (by decide)]
          simp only [u120_0, u120_1, u120_2, u120_3, u120_5, u120_6, u120_9, u120_12, u120_13, u120_16, u120_17, u120_18, u120_19, u120_21, u120_24, u120_27, u120_28, u120_31, u120_32, u120_33, u120_36, u120_37, u120_40, u120_41, u120_42, u120_43, u120_46, u120_49, u120_50, u120_53, u120_54, u120_56, u120_58, u120_61, u120_62, u120_63, u120_66, u120_67, u120_70, u120_71, u120_72, u120_73, u120_76, u120_77, u120_78, u120_81, u120_82, u120_85, u120_86, u120_87, u120_90, u120_93, u120_94, hm, hle, if_false, hB, hBs, hc, hcs, true_and, s_mIn, pu_some, pu_none, e7, b01_e0, q1, and_self, not_true, le_n (m 86 k) (nI 0), q2, s_mIsIn, q3, not_false_iff, if_true, nI_add]
        · have dq : decide ((nI 0 ≤ m 88 k ∧ m 88 k < nI 8) ∧ nI 0 < m 86 k ∧ ¬ (m 90 s >>> (nI k &&& 31)) &&& nI 1 = nI 1) = true := decide_eq_true ⟨q1, q2, q3⟩
          refine ⟨some (.int (nI 1)), u120_4.trans ?_⟩
          rw [dq, Bool.true_and]
          cases b with
          | none =>
            rw [if_pos rfl]
            simp only [u120_0, u120_1, u120_2, u120_3, u120_5, u120_6, u120_9, u120_12, u120_13, u120_16, u120_17, u120_18, u120_19, u120_21, u120_24, u120_27, u120_28, u120_31, u120_32, u120_33, u120_36, u120_37, u120_40, u120_41, u120_42, u120_43, u120_46, u120_49, u120_50, u120_53, u120_54, u120_56, u120_58, u120_61, u120_62, u120_63, u120_66, u120_67, u120_70, u120_71, u120_72, u120_73, u120_76, u120_77, u120_78, u120_81, u120_82, u120_85, u120_86, u120_87, u120_90, u120_93, u120_94, hm, hle, if_false, hB, hBs, hc, hcs, true_and, s_mIn, pu_some, pu_none, e7, b01_e0, q1, and_self, not_true, le_n (m 86 k) (nI 0), q2, s_mIsIn, q3, not_false_iff, if_true, nI_add, z1, optI_none, optI_some]
          | some j =>
            have hj := hb j rfl
            have hBj : inB (nI j) 8 = true := inB8 hj (by decide)
            have hcj : (nI j).toNatClampNeg = j := nI_cl8 (by omega)
            have hnj := nI_ne1 (k := j) (by omega)
            by_cases q4 : m 86 j < m 86 k
            · rw [if_pos (decide_eq_true q4)]
              simp only [u120_0, u120_1, u120_2, u120_3, u120_5, u120_6, u120_9, u120_12, u120_13, u120_16, u120_17, u120_18, u120_19, u120_21, u120_24, u120_27, u120_28, u120_31, u120_32, u120_33, u120_36, u120_37, u120_40, u120_41, u120_42, u120_43, u120_46, u120_49, u120_50, u120_53, u120_54, u120_56, u120_58, u120_61, u120_62, u120_63, u120_66, u120_67, u120_70, u120_71, u120_72, u120_73, u120_76, u120_77, u120_78, u120_81, u120_82, u120_85, u120_86, u120_87, u120_90, u120_93, u120_94, hm, hle, if_false, hB, hBs, hBj, hc, hcs, hcj, true_and, s_mIn, pu_some, pu_none, e7, b01_e0, q1, and_self, not_true, le_n (m 86 k) (nI 0), q2, s_mIsIn, q3, not_false_iff, if_true, nI_add, z1, optI_some, hnj, le_n (m 86 k) (m 86 j), q4]
            · rw [if_neg (fun z => q4 (of_decide_eq_true z))]
              simp only [u120_0, u120_1, u120_2, u120_3, u120_5, u120_6, u120_9, u120_12, u120_13, u120_16, u120_17, u120_18, u120_19, u120_21, u120_24, u120_27, u120_28, u120_31, u120_32, u120_33, u120_36, u120_37, u120_40, u120_41, u120_42, u120_43, u120_46, u120_49, u120_50, u120_53, u120_54, u120_56, u120_58, u120_61, u120_62, u120_63, u120_66, u120_67, u120_70, u120_71, u120_72, u120_73, u120_76, u120_77, u120_78, u120_81, u120_82, u120_85, u120_86, u120_87, u120_90, u120_93, u120_94, hm, hle, if_false, hB, hBs, hBj, hc, hcs, hcj, true_and, s_mIn, pu_some, pu_none, e7, b01_e0, q1, and_self, not_true, le_n (m 86 k) (nI 0), q2, s_mIsIn, q3, not_false_iff, if_true, nI_add, z1, optI_some, hnj, le_n (m 86 k) (m 86 j), q4]
      · refine ⟨some (.int (nI 0)), u120_4.trans ?_⟩
        have dq : decide ((nI 0 ≤ m 88 k ∧ m 88 k < nI 8) ∧ nI 0 < m 86 k ∧ ¬ (m 90 s >>> (nI k &&& 31)) &&& nI 1 = nI 1) = false := decide_eq_false (fun z => q2 z.2.1)
        rw [dq, Bool.false_and, if_neg (by decide)]
        simp only [u120_0, u120_1, u120_2, u120_3, u120_5, u120_6, u120_9, u120_12, u120_13, u120_16, u120_17, u120_18, u120_19, u120_21, u120_24, u120_27, u120_28, u120_31, u120_32, u120_33, u120_36, u120_37, u120_40, u120_41, u120_42, u120_43, u120_46, u120_49, u120_50, u120_53, u120_54, u120_56, u120_58, u120_61, u120_62, u120_63, u120_66, u120_67, u120_70, u120_71, u120_72, u120_73, u120_76, u120_77, u120_78, u120_81, u120_82, u120_85, u120_86, u120_87, u120_90, u120_93, u120_94, hm, hle, if_false, hB, hBs, hc, hcs, true_and, s_mIn, pu_some, pu_none, e7, b01_e0, q1, and_self, not_true, le_n (m 86 k) (nI 0), q2, not_false_iff, if_true, nI_add]
    · refine ⟨some (.int (nI 0)), u120_4.trans ?_⟩
      have dq : decide ((nI 0 ≤ m 88 k ∧ m 88 k < nI 8) ∧ nI 0 < m 86 k ∧ ¬ (m 90 s >>> (nI k &&& 31)) &&& nI 1 = nI 1) = false := decide_eq_false (fun z => q1 z.1)
      rw [dq, Bool.false_and, if_neg (by decide)]
      simp only [u120_0, u120_1, u120_2, u120_3, u120_5, u120_6, u120_9, u120_12, u120_13, u120_16, u120_17, u120_18, u120_19, u120_21, u120_24, u120_27, u120_28, u120_31, u120_32, u120_33, u120_36, u120_37, u120_40, u120_41, u120_42, u120_43, u120_46, u120_49, u120_50, u120_53, u120_54, u120_56, u120_58, u120_61, u120_62, u120_63, u120_66, u120_67, u120_70, u120_71, u120_72, u120_73, u120_76, u120_77, u120_78, u120_81, u120_82, u120_85, u120_86, u120_87, u120_90, u120_93, u120_94, hm, hle, if_false, hB, hBs, hc, hcs, true_and, s_mIn, pu_some, pu_none, e7, b01_e0, q1, not_false_iff, if_true, nI_add]) none none (fun j hj => by cases hj)
  obtain ⟨l2, e⟩ := e
  refine Eq.trans ?_ (e.trans ?_)
  · simp only [u120_0, u120_1, u120_2, u120_3, u120_5, u120_6, u120_9, u120_12, u120_13, u120_16, u120_17, u120_18, u120_19, u120_21, u120_24, u120_27, u120_28, u120_31, u120_32, u120_33, u120_36, u120_37, u120_40, u120_41, u120_42, u120_43, u120_46, u120_49, u120_50, u120_53, u120_54, u120_56, u120_58, u120_61, u120_62, u120_63, u120_66, u120_67, u120_70, u120_71, u120_72, u120_73, u120_76, u120_77, u120_78, u120_81, u120_82, u120_85, u120_86, u120_87, u120_90, u120_93, u120_94, optI_none]
  · refine u120_4.trans ?_
    simp (disch := omega) only [u120_0, u120_1, u120_2, u120_3, u120_5, u120_6, u120_9, u120_12, u120_13, u120_16, u120_17, u120_18, u120_19, u120_21, u120_24, u120_27, u120_28, u120_31, u120_32, u120_33, u120_36, u120_37, u120_40, u120_41, u120_42, u120_43, u120_46, u120_49, u120_50, u120_53, u120_54, u120_56, u120_58, u120_61, u120_62, u120_63, u120_66, u120_67, u120_70, u120_71, u120_72, u120_73, u120_76, u120_77, u120_78, u120_81, u120_82, u120_85, u120_86, u120_87, u120_90, u120_93, u120_94, hm, nI_le8, Nat.le_refl, if_true]
    rfl
end MNEXT
