section PLANS
variable {S : AScr} {f : Nat} {m : AMem} {Rt : Option Value → AMem → Prop} {men inns fleet : Nat}
/-- the other town is as large as the town -/
def TT (men inns fleet : Nat) (m : AMem) : Prop := TS men inns fleet m ∧ m 19 0 = nI men ∧ m 19 1 = nI inns ∧ m 19 2 = nI fleet
theorem becomeM_row {a : Nat} (h : a < 19 ∨ 29 < a) : becomeM m a = m a := by
  funext j
  unfold becomeM
  simp only [up_ap, upA_ap]
  repeat rw [if_neg (by omega)]
theorem becomeM_n {j : Nat} : becomeM m 19 j = if j < 5 then m 8 j else m 19 j := by
  unfold becomeM
  simp only [up_ap, upA_ap, Nat.reduceEqDiff, if_false, true_and]
  by_cases h : j < 5
  · rw [if_pos h]
    rcases Nat.lt_or_ge j 4 with h4 | h4
    · match j, h4 with
      | 0, _ => rfl
      | 1, _ => rfl
      | 2, _ => rfl
      | 3, _ => rfl
    · have : j = 4 := by omega
      subst this
      rfl
  · rw [if_neg h]
    repeat rw [if_neg (by omega)]
theorem TT_bec (h : TS men inns fleet m) : TT men inns fleet (becomeM m) := by
  refine ⟨?_, ?_, ?_, ?_⟩
  · unfold TS
    rw [becomeM_row (by omega)]
    exact h
  · rw [becomeM_n, if_pos (by omega)]; exact h.1
  · rw [becomeM_n, if_pos (by omega)]; exact h.2.1
  · rw [becomeM_n, if_pos (by omega)]; exact h.2.2.1
theorem TT_keep {m2 : AMem} (h : TT men inns fleet m) (h8 : ∀ j, j < 3 → m2 8 j = m 8 j) (h19 : ∀ j, j < 3 → m2 19 j = m 19 j) : TT men inns fleet m2 := by
  unfold TT TS
  rw [h8 0 (by omega), h8 1 (by omega), h8 2 (by omega), h19 0 (by omega), h19 1 (by omega), h19 2 (by omega)]
  exact h
theorem TT_run (h : TT men inns fleet m) : TT men inns fleet (runM 44 19 men fleet m) := TT_keep h (fun j _ => runM_t (by omega)) (fun j _ => runM_t (by omega))
theorem TT_up {k j : Nat} {v : Int32} (h : TT men inns fleet m) (hk : (k ≠ 8 ∧ k ≠ 19) ∨ 2 < j) : TT men inns fleet (up m k j v) := TT_keep h (fun i _ => by rw [up_ap, if_neg (by omega)]) (fun i _ => by rw [up_ap, if_neg (by omega)])
theorem TT_upA {k : Nat} {g : Nat → Int32} (h : TT men inns fleet m) (hk : k ≠ 8 ∧ k ≠ 19) : TT men inns fleet (upA m k g) := TT_keep h (fun i _ => by rw [upA_ap, if_neg (by omega)]) (fun i _ => by rw [upA_ap, if_neg (by omega)])
theorem s_runO (h : TT men inns fleet m) : T S (f + 4) 0 0 [some (.ref 44), none, none] [] m Rt = Rt none (runM 44 19 men fleet m) := s_run (Or.inr ⟨rfl, rfl⟩) h.1.2.2.2.1 h.1.2.2.2.2.2 h.2.1 h.2.2.2
/-- the best rent -/
def priceF (men fleet x k : Nat) (s : AMem × Option Nat × Int32) : AMem × Option Nat × Int32 :=
  let m2 := runM 44 19 men fleet (up s.1 24 x (nI k))
  if s.2.2 < m2 49 x then (m2, some k, m2 49 x) else (m2, s.2)
def priceE (men fleet x : Nat) (m : AMem) : AMem × Option Nat × Int32 := it 10 (priceF men fleet x) (becomeM m, none, -1)
theorem s_price (h : TS men inns fleet m) {x w : Int32} : T S (f + 6) 54 0 [some (.ref 0), some (.int x), some (.int w), none, none, none] [] m Rt = if (nI 0 ≤ x ∧ x < nI inns) ∧ (nI 0 ≤ w ∧ w < nI 2) then Rt (some (.int (if w = nI 0 then optI (priceE men fleet x.toNatClampNeg m).2.1 else (priceE men fleet x.toNatClampNeg m).2.2))) (priceE men fleet x.toNatClampNeg m).1 else Rt (some (.int (-2))) m := by
  have hb := h.2.2.2.2.1
  by_cases hx : nI 0 ≤ x ∧ x < nI inns
  · by_cases hw : nI 0 ≤ w ∧ w < nI 2
    · obtain ⟨k0, hk0, rfl⟩ := P_nI hx (by omega)
      rw [if_pos ⟨hx, hw⟩]
      have e := it_run (fun k (s : AMem × Option Nat × Int32) => T S (f + 6) 54 38 [some (.ref 0), some (.int (nI k0)), some (.int w), some (.int (optI s.2.1)), some (.int s.2.2), some (.int (nI k))] [] s.1 Rt) (priceF men fleet k0) (fun _ s => TT men inns fleet s.1) 10 (fun k _ s hs => by
        unfold priceF
        simp only
        split
        · exact TT_run (TT_up hs (by omega))
        · exact TT_run (TT_up hs (by omega))) (fun k hk s hs => by
        have hkm : ¬ 10 ≤ k := by omega
        have hB : inB (nI k0) 8 = true := inB8 (by omega) (by decide)
        have ht : TT men inns fleet (up s.1 24 k0 (nI k)) := TT_up hs (by omega)
        refine u54_38.trans ?_
        unfold priceF
        by_cases q : s.2.2 < runM 44 19 men fleet (up s.1 24 k0 (nI k)) 49 k0
        · simp (disch := omega) only [u54_0, u54_1, u54_2, u54_5, u54_8, u54_9, u54_10, u54_13, u54_16, u54_18, u54_19, u54_20, u54_21, u54_22, u54_24, u54_25, u54_28, u54_29, u54_32, u54_35, u54_36, u54_40, u54_42, u54_45, u54_46, u54_49, u54_52, u54_53, u54_55, u54_56, u54_57, u54_60, u54_63, u54_64, u54_67, u54_70, u54_71, u54_72, u54_74, u54_77, u54_79, u54_80, u54_81, u54_84, u54_87, u54_88, u54_89, u54_91, u54_94, u54_97, u54_98, u54_101, u54_102, u54_105, u54_107, nI_le8, hkm, if_false, hB, nI_cl8, true_and, s_runO ht, pu_some, pu_none, le_n (runM 44 19 men fleet (up s.1 24 k0 (nI k)) 49 k0) s.2.2, q, not_true, if_true, optI_some, nI_add]
        · simp (disch := omega) only [u54_0, u54_1, u54_2, u54_5, u54_8, u54_9, u54_10, u54_13, u54_16, u54_18, u54_19, u54_20, u54_21, u54_22, u54_24, u54_25, u54_28, u54_29, u54_32, u54_35, u54_36, u54_40, u54_42, u54_45, u54_46, u54_49, u54_52, u54_53, u54_55, u54_56, u54_57, u54_60, u54_63, u54_64, u54_67, u54_70, u54_71, u54_72, u54_74, u54_77, u54_79, u54_80, u54_81, u54_84, u54_87, u54_88, u54_89, u54_91, u54_94, u54_97, u54_98, u54_101, u54_102, u54_105, u54_107, nI_le8, hkm, if_false, hB, nI_cl8, true_and, s_runO ht, pu_some, pu_none, le_n (runM 44 19 men fleet (up s.1 24 k0 (nI k)) 49 k0) s.2.2, q, not_false_iff, if_true, nI_add]) (becomeM m, none, -1) (TT_bec h)
      refine Eq.trans ?_ (e.trans ?_)
      · simp only [u54_0, u54_1, u54_2, u54_5, u54_8, u54_9, u54_10, u54_13, u54_16, u54_18, u54_19, u54_20, u54_21, u54_22, u54_24, u54_25, u54_28, u54_29, u54_32, u54_35, u54_36, u54_40, u54_42, u54_45, u54_46, u54_49, u54_52, u54_53, u54_55, u54_56, u54_57, u54_60, u54_63, u54_64, u54_67, u54_70, u54_71, u54_72, u54_74, u54_77, u54_79, u54_80, u54_81, u54_84, u54_87, u54_88, u54_89, u54_91, u54_94, u54_97, u54_98, u54_101, u54_102, u54_105, u54_107, s_isInn h, s_isOneOf, pu_some, pu_none, b01_e0, hx, hw, and_self, not_true, if_false, s_become, optI_none]
      · refine u54_38.trans ?_
        by_cases w0 : w = nI 0
        · simp (disch := omega) only [u54_0, u54_1, u54_2, u54_5, u54_8, u54_9, u54_10, u54_13, u54_16, u54_18, u54_19, u54_20, u54_21, u54_22, u54_24, u54_25, u54_28, u54_29, u54_32, u54_35, u54_36, u54_40, u54_42, u54_45, u54_46, u54_49, u54_52, u54_53, u54_55, u54_56, u54_57, u54_60, u54_63, u54_64, u54_67, u54_70, u54_71, u54_72, u54_74, u54_77, u54_79, u54_80, u54_81, u54_84, u54_87, u54_88, u54_89, u54_91, u54_94, u54_97, u54_98, u54_101, u54_102, u54_105, u54_107, nI_le8, Nat.le_refl, if_true, nI_cl8, w0]
          rfl
        · simp (disch := omega) only [u54_0, u54_1, u54_2, u54_5, u54_8, u54_9, u54_10, u54_13, u54_16, u54_18, u54_19, u54_20, u54_21, u54_22, u54_24, u54_25, u54_28, u54_29, u54_32, u54_35, u54_36, u54_40, u54_42, u54_45, u54_46, u54_49, u54_52, u54_53, u54_55, u54_56, u54_57, u54_60, u54_63, u54_64, u54_67, u54_70, u54_71, u54_72, u54_74, u54_77, u54_79, u54_80, u54_81, u54_84, u54_87, u54_88, u54_89, u54_91, u54_94, u54_97, u54_98, u54_101, u54_102, u54_105, u54_107, nI_le8, Nat.le_refl, if_true, if_false, nI_cl8, w0]
          rfl
    · simp only [u54_0, u54_1, u54_2, u54_5, u54_8, u54_9, u54_10, u54_13, u54_16, u54_18, u54_19, u54_20, u54_21, u54_22, u54_24, u54_25, u54_28, u54_29, u54_32, u54_35, u54_36, u54_40, u54_42, u54_45, u54_46, u54_49, u54_52, u54_53, u54_55, u54_56, u54_57, u54_60, u54_63, u54_64, u54_67, u54_70, u54_71, u54_72, u54_74, u54_77, u54_79, u54_80, u54_81, u54_84, u54_87, u54_88, u54_89, u54_91, u54_94, u54_97, u54_98, u54_101, u54_102, u54_105, u54_107, s_isInn h, s_isOneOf, pu_some, pu_none, b01_e0, hx, hw, and_self, and_false, not_true, not_false_iff, if_false, if_true]
  · simp only [u54_0, u54_1, u54_2, u54_5, u54_8, u54_9, u54_10, u54_13, u54_16, u54_18, u54_19, u54_20, u54_21, u54_22, u54_24, u54_25, u54_28, u54_29, u54_32, u54_35, u54_36, u54_40, u54_42, u54_45, u54_46, u54_49, u54_52, u54_53, u54_55, u54_56, u54_57, u54_60, u54_63, u54_64, u54_67, u54_70, u54_71, u54_72, u54_74, u54_77, u54_79, u54_80, u54_81, u54_84, u54_87, u54_88, u54_89, u54_91, u54_94, u54_97, u54_98, u54_101, u54_102, u54_105, u54_107, s_isInn h, pu_some, pu_none, b01_e0, hx, false_and, not_false_iff, if_true, if_false]
/-- the best house to lodge in -/
def lodgeF (men fleet x k : Nat) (s : AMem × Option Nat × Int32) : AMem × Option Nat × Int32 :=
  let m2 := runM 44 19 men fleet (up s.1 23 x (nI k))
  let day := if m2 48 x = -1 then nI 30 else m2 48 x
  if ¬ m2 47 x = -1 ∧ s.2.2 < day then (m2, some k, day) else (m2, s.2)
theorem lodgeF_1 {men fleet x k : Nat} {s : AMem × Option Nat × Int32} : (lodgeF men fleet x k s).1 = runM 44 19 men fleet (up s.1 23 x (nI k)) := by
  unfold lodgeF
  exact apply_ite Prod.fst _ _ _ |>.trans (by simp only [ite_self])
def lodgeE (men inns fleet x : Nat) (m : AMem) : AMem × Option Nat × Int32 := it inns (lodgeF men fleet x) (becomeM m, none, -1)
set_option maxHeartbeats 1000000 in
theorem s_lodge (h : TS men inns fleet m) {x w : Int32} : T S (f + 6) 55 0 [some (.ref 0), some (.int x), some (.int w), none, none, none, none, none] [] m Rt = if (nI 0 ≤ x ∧ x < nI men) ∧ (nI 0 ≤ w ∧ w < nI 2) then Rt (some (.int (if w = nI 0 then optI (lodgeE men inns fleet x.toNatClampNeg m).2.1 else if (lodgeE men inns fleet x.toNatClampNeg m).2.2 = nI 30 then -1 else (lodgeE men inns fleet x.toNatClampNeg m).2.2))) (lodgeE men inns fleet x.toNatClampNeg m).1 else Rt (some (.int (-2))) m := by
  have hb := h.2.2.2.1
  have hi := h.2.2.2.2.1
  by_cases hx : nI 0 ≤ x ∧ x < nI men
  · by_cases hw : nI 0 ≤ w ∧ w < nI 2
    · obtain ⟨k0, hk0, rfl⟩ := P_nI hx (by omega)
      rw [if_pos ⟨hx, hw⟩]
      obtain ⟨l2, e⟩ := it_runL (fun k (s : AMem × Option Nat × Int32) (l : Option Value × Option Value) => T S (f + 6) 55 38 [some (.ref 0), some (.int (nI k0)), some (.int w), some (.int (optI s.2.1)), some (.int s.2.2), some (.int (nI k)), l.1, l.2] [] s.1 Rt) (lodgeF men fleet k0) (fun _ s => TT men inns fleet s.1) inns (fun k _ s hs => by
        rw [lodgeF_1]
        exact TT_run (TT_up hs (by omega))) (fun k hk s l hs => by
        have hkm : ¬ inns ≤ k := by omega
        have hB : inB (nI k0) 8 = true := inB8 (by omega) (by decide)
        have ht : TT men inns fleet (up s.1 23 k0 (nI k)) := TT_up hs (by omega)
        have hi1 := hs.1.2.1
        unfold lodgeF
        by_cases q1 : runM 44 19 men fleet (up s.1 23 k0 (nI k)) 47 k0 = -1
        · by_cases q2 : runM 44 19 men fleet (up s.1 23 k0 (nI k)) 48 k0 = -1
          · refine ⟨(some (.int (nI 0)), some (.int (nI 30))), u55_38.trans ?_⟩
            simp (disch := omega) only [u55_0, u55_1, u55_2, u55_5, u55_8, u55_9, u55_10, u55_13, u55_16, u55_18, u55_19, u55_20, u55_21, u55_22, u55_24, u55_25, u55_28, u55_29, u55_32, u55_35, u55_36, u55_40, u55_41, u55_44, u55_47, u55_50, u55_51, u55_54, u55_57, u55_58, u55_60, u55_61, u55_62, u55_65, u55_68, u55_69, u55_72, u55_75, u55_76, u55_77, u55_78, u55_81, u55_82, u55_85, u55_86, u55_88, u55_89, u55_92, u55_95, u55_96, u55_97, u55_98, u55_101, u55_103, u55_106, u55_107, u55_110, u55_113, u55_114, u55_115, u55_117, u55_119, u55_122, u55_124, u55_126, u55_129, u55_131, u55_132, u55_134, u55_136, u55_139, u55_142, u55_143, u55_146, u55_147, u55_148, u55_150, u55_152, u55_155, u55_156, u55_159, u55_161, hi1, nI_le8, hkm, if_false, hB, nI_cl8, true_and, s_runO ht, pu_some, pu_none, q1, q2, not_true, false_and, if_true, nI_add]
          · refine ⟨(some (.int (nI 0)), some (.int (runM 44 19 men fleet (up s.1 23 k0 (nI k)) 48 k0))), u55_38.trans ?_⟩
            simp (disch := omega) only [u55_0, u55_1, u55_2, u55_5, u55_8, u55_9, u55_10, u55_13, u55_16, u55_18, u55_19, u55_20, u55_21, u55_22, u55_24, u55_25, u55_28, u55_29, u55_32, u55_35, u55_36, u55_40, u55_41, u55_44, u55_47, u55_50, u55_51, u55_54, u55_57, u55_58, u55_60, u55_61, u55_62, u55_65, u55_68, u55_69, u55_72, u55_75, u55_76, u55_77, u55_78, u55_81, u55_82, u55_85, u55_86, u55_88, u55_89, u55_92, u55_95, u55_96, u55_97, u55_98, u55_101, u55_103, u55_106, u55_107, u55_110, u55_113, u55_114, u55_115, u55_117, u55_119, u55_122, u55_124, u55_126, u55_129, u55_131, u55_132, u55_134, u55_136, u55_139, u55_142, u55_143, u55_146, u55_147, u55_148, u55_150, u55_152, u55_155, u55_156, u55_159, u55_161, hi1, nI_le8, hkm, if_false, hB, nI_cl8, true_and, s_runO ht, pu_some, pu_none, q1, q2, not_true, false_and, if_true, nI_add]
        · by_cases q2 : runM 44 19 men fleet (up s.1 23 k0 (nI k)) 48 k0 = -1
          · refine ⟨(some (.int (nI 1)), some (.int (nI 30))), u55_38.trans ?_⟩
            by_cases q3 : s.2.2 < nI 30
            · simp (disch := omega) only [u55_0, u55_1, u55_2, u55_5, u55_8, u55_9, u55_10, u55_13, u55_16, u55_18, u55_19, u55_20, u55_21, u55_22, u55_24, u55_25, u55_28, u55_29, u55_32, u55_35, u55_36, u55_40, u55_41, u55_44, u55_47, u55_50, u55_51, u55_54, u55_57, u55_58, u55_60, u55_61, u55_62, u55_65, u55_68, u55_69, u55_72, u55_75, u55_76, u55_77, u55_78, u55_81, u55_82, u55_85, u55_86, u55_88, u55_89, u55_92, u55_95, u55_96, u55_97, u55_98, u55_101, u55_103, u55_106, u55_107, u55_110, u55_113, u55_114, u55_115, u55_117, u55_119, u55_122, u55_124, u55_126, u55_129, u55_131, u55_132, u55_134, u55_136, u55_139, u55_142, u55_143, u55_146, u55_147, u55_148, u55_150, u55_152, u55_155, u55_156, u55_159, u55_161, hi1, nI_le8, hkm, if_false, hB, nI_cl8, true_and, s_runO ht, pu_some, pu_none, q1, q2, not_false_iff, if_true, nI_add, le_n (nI 30) s.2.2, q3, not_true, optI_some, and_self, show ¬ nI 1 = nI 0 by decide]
            · simp (disch := omega) only [u55_0, u55_1, u55_2, u55_5, u55_8, u55_9, u55_10, u55_13, u55_16, u55_18, u55_19, u55_20, u55_21, u55_22, u55_24, u55_25, u55_28, u55_29, u55_32, u55_35, u55_36, u55_40, u55_41, u55_44, u55_47, u55_50, u55_51, u55_54, u55_57, u55_58, u55_60, u55_61, u55_62, u55_65, u55_68, u55_69, u55_72, u55_75, u55_76, u55_77, u55_78, u55_81, u55_82, u55_85, u55_86, u55_88, u55_89, u55_92, u55_95, u55_96, u55_97, u55_98, u55_101, u55_103, u55_106, u55_107, u55_110, u55_113, u55_114, u55_115, u55_117, u55_119, u55_122, u55_124, u55_126, u55_129, u55_131, u55_132, u55_134, u55_136, u55_139, u55_142, u55_143, u55_146, u55_147, u55_148, u55_150, u55_152, u55_155, u55_156, u55_159, u55_161, hi1, nI_le8, hkm, if_false, hB, nI_cl8, true_and, s_runO ht, pu_some, pu_none, q1, q2, not_false_iff, if_true, nI_add, le_n (nI 30) s.2.2, q3, and_false, show ¬ nI 1 = nI 0 by decide]
          · refine ⟨(some (.int (nI 1)), some (.int (runM 44 19 men fleet (up s.1 23 k0 (nI k)) 48 k0))), u55_38.trans ?_⟩
            by_cases q3 : s.2.2 < runM 44 19 men fleet (up s.1 23 k0 (nI k)) 48 k0
            · simp (disch := omega) only [u55_0, u55_1, u55_2, u55_5, u55_8, u55_9, u55_10, u55_13, u55_16, u55_18, u55_19, u55_20, u55_21, u55_22, u55_24, u55_25, u55_28, u55_29, u55_32, u55_35, u55_36, u55_40, u55_41, u55_44, u55_47, u55_50, u55_51, u55_54, u55_57, u55_58, u55_60, u55_61, u55_62, u55_65, u55_68, u55_69, u55_72, u55_75, u55_76, u55_77, u55_78, u55_81, u55_82, u55_85, u55_86, u55_88, u55_89, u55_92, u55_95, u55_96, u55_97, u55_98, u55_101, u55_103, u55_106, u55_107, u55_110, u55_113, u55_114, u55_115, u55_117, u55_119, u55_122, u55_124, u55_126, u55_129, u55_131, u55_132, u55_134, u55_136, u55_139, u55_142, u55_143, u55_146, u55_147, u55_148, u55_150, u55_152, u55_155, u55_156, u55_159, u55_161, hi1, nI_le8, hkm, if_false, hB, nI_cl8, true_and, s_runO ht, pu_some, pu_none, q1, q2, not_false_iff, if_true, nI_add, le_n (runM 44 19 men fleet (up s.1 23 k0 (nI k)) 48 k0) s.2.2, q3, not_true, optI_some, and_self, show ¬ nI 1 = nI 0 by decide]
            · simp (disch := omega) only [u55_0, u55_1, u55_2, u55_5, u55_8, u55_9, u55_10, u55_13, u55_16, u55_18, u55_19, u55_20, u55_21, u55_22, u55_24, u55_25, u55_28, u55_29, u55_32, u55_35, u55_36, u55_40, u55_41, u55_44, u55_47, u55_50, u55_51, u55_54, u55_57, u55_58, u55_60, u55_61, u55_62, u55_65, u55_68, u55_69, u55_72, u55_75, u55_76, u55_77, u55_78, u55_81, u55_82, u55_85, u55_86, u55_88, u55_89, u55_92, u55_95, u55_96, u55_97, u55_98, u55_101, u55_103, u55_106, u55_107, u55_110, u55_113, u55_114, u55_115, u55_117, u55_119, u55_122, u55_124, u55_126, u55_129, u55_131, u55_132, u55_134, u55_136, u55_139, u55_142, u55_143, u55_146, u55_147, u55_148, u55_150, u55_152, u55_155, u55_156, u55_159, u55_161, hi1, nI_le8, hkm, if_false, hB, nI_cl8, true_and, s_runO ht, pu_some, pu_none, q1, q2, not_false_iff, if_true, nI_add, le_n (runM 44 19 men fleet (up s.1 23 k0 (nI k)) 48 k0) s.2.2, q3, and_false, show ¬ nI 1 = nI 0 by decide]) (becomeM m, none, -1) (none, none) (TT_bec h)
      have hE : TT men inns fleet (lodgeE men inns fleet k0 m).1 := it_I (lodgeF men fleet k0) (fun _ s => TT men inns fleet s.1) inns (fun k _ s hs => by
        rw [lodgeF_1]
        exact TT_run (TT_up hs (by omega))) (becomeM m, none, -1) (TT_bec h) inns (Nat.le_refl _)
      refine Eq.trans ?_ (e.trans ?_)
      · simp only [u55_0, u55_1, u55_2, u55_5, u55_8, u55_9, u55_10, u55_13, u55_16, u55_18, u55_19, u55_20, u55_21, u55_22, u55_24, u55_25, u55_28, u55_29, u55_32, u55_35, u55_36, u55_40, u55_41, u55_44, u55_47, u55_50, u55_51, u55_54, u55_57, u55_58, u55_60, u55_61, u55_62, u55_65, u55_68, u55_69, u55_72, u55_75, u55_76, u55_77, u55_78, u55_81, u55_82, u55_85, u55_86, u55_88, u55_89, u55_92, u55_95, u55_96, u55_97, u55_98, u55_101, u55_103, u55_106, u55_107, u55_110, u55_113, u55_114, u55_115, u55_117, u55_119, u55_122, u55_124, u55_126, u55_129, u55_131, u55_132, u55_134, u55_136, u55_139, u55_142, u55_143, u55_146, u55_147, u55_148, u55_150, u55_152, u55_155, u55_156, u55_159, u55_161, s_isMan h, s_isOneOf, pu_some, pu_none, b01_e0, hx, hw, and_self, not_true, if_false, s_become, optI_none]
      · refine u55_38.trans ?_
        rw [show it inns (lodgeF men fleet k0) (becomeM m, none, -1) = lodgeE men inns fleet k0 m from rfl]
        have hi1 := hE.1.2.1
        by_cases w0 : w = nI 0
        · simp (disch := omega) only [u55_0, u55_1, u55_2, u55_5, u55_8, u55_9, u55_10, u55_13, u55_16, u55_18, u55_19, u55_20, u55_21, u55_22, u55_24, u55_25, u55_28, u55_29, u55_32, u55_35, u55_36, u55_40, u55_41, u55_44, u55_47, u55_50, u55_51, u55_54, u55_57, u55_58, u55_60, u55_61, u55_62, u55_65, u55_68, u55_69, u55_72, u55_75, u55_76, u55_77, u55_78, u55_81, u55_82, u55_85, u55_86, u55_88, u55_89, u55_92, u55_95, u55_96, u55_97, u55_98, u55_101, u55_103, u55_106, u55_107, u55_110, u55_113, u55_114, u55_115, u55_117, u55_119, u55_122, u55_124, u55_126, u55_129, u55_131, u55_132, u55_134, u55_136, u55_139, u55_142, u55_143, u55_146, u55_147, u55_148, u55_150, u55_152, u55_155, u55_156, u55_159, u55_161, hi1, nI_le8, Nat.le_refl, if_true, nI_cl8, w0]
        · by_cases q : (lodgeE men inns fleet k0 m).2.2 = nI 30
          · simp (disch := omega) only [u55_0, u55_1, u55_2, u55_5, u55_8, u55_9, u55_10, u55_13, u55_16, u55_18, u55_19, u55_20, u55_21, u55_22, u55_24, u55_25, u55_28, u55_29, u55_32, u55_35, u55_36, u55_40, u55_41, u55_44, u55_47, u55_50, u55_51, u55_54, u55_57, u55_58, u55_60, u55_61, u55_62, u55_65, u55_68, u55_69, u55_72, u55_75, u55_76, u55_77, u55_78, u55_81, u55_82, u55_85, u55_86, u55_88, u55_89, u55_92, u55_95, u55_96, u55_97, u55_98, u55_101, u55_103, u55_106, u55_107, u55_110, u55_113, u55_114, u55_115, u55_117, u55_119, u55_122, u55_124, u55_126, u55_129, u55_131, u55_132, u55_134, u55_136, u55_139, u55_142, u55_143, u55_146, u55_147, u55_148, u55_150, u55_152, u55_155, u55_156, u55_159, u55_161, hi1, nI_le8, Nat.le_refl, if_true, if_false, nI_cl8, w0, q]
          · simp (disch := omega) only [u55_0, u55_1, u55_2, u55_5, u55_8, u55_9, u55_10, u55_13, u55_16, u55_18, u55_19, u55_20, u55_21, u55_22, u55_24, u55_25, u55_28, u55_29, u55_32, u55_35, u55_36, u55_40, u55_41, u55_44, u55_47, u55_50, u55_51, u55_54, u55_57, u55_58, u55_60, u55_61, u55_62, u55_65, u55_68, u55_69, u55_72, u55_75, u55_76, u55_77, u55_78, u55_81, u55_82, u55_85, u55_86, u55_88, u55_89, u55_92, u55_95, u55_96, u55_97, u55_98, u55_101, u55_103, u55_106, u55_107, u55_110, u55_113, u55_114, u55_115, u55_117, u55_119, u55_122, u55_124, u55_126, u55_129, u55_131, u55_132, u55_134, u55_136, u55_139, u55_142, u55_143, u55_146, u55_147, u55_148, u55_150, u55_152, u55_155, u55_156, u55_159, u55_161, hi1, nI_le8, Nat.le_refl, if_true, if_false, nI_cl8, w0, q]
    · simp only [u55_0, u55_1, u55_2, u55_5, u55_8, u55_9, u55_10, u55_13, u55_16, u55_18, u55_19, u55_20, u55_21, u55_22, u55_24, u55_25, u55_28, u55_29, u55_32, u55_35, u55_36, u55_40, u55_41, u55_44, u55_47, u55_50, u55_51, u55_54, u55_57, u55_58, u55_60, u55_61, u55_62, u55_65, u55_68, u55_69, u55_72, u55_75, u55_76, u55_77, u55_78, u55_81, u55_82, u55_85, u55_86, u55_88, u55_89, u55_92, u55_95, u55_96, u55_97, u55_98, u55_101, u55_103, u55_106, u55_107, u55_110, u55_113, u55_114, u55_115, u55_117, u55_119, u55_122, u55_124, u55_126, u55_129, u55_131, u55_132, u55_134, u55_136, u55_139, u55_142, u55_143, u55_146, u55_147, u55_148, u55_150, u55_152, u55_155, u55_156, u55_159, u55_161, s_isMan h, s_isOneOf, pu_some, pu_none, b01_e0, hx, hw, and_self, and_false, not_true, not_false_iff, if_false, if_true]
  · simp only [u55_0, u55_1, u55_2, u55_5, u55_8, u55_9, u55_10, u55_13, u55_16, u55_18, u55_19, u55_20, u55_21, u55_22, u55_24, u55_25, u55_28, u55_29, u55_32, u55_35, u55_36, u55_40, u55_41, u55_44, u55_47, u55_50, u55_51, u55_54, u55_57, u55_58, u55_60, u55_61, u55_62, u55_65, u55_68, u55_69, u55_72, u55_75, u55_76, u55_77, u55_78, u55_81, u55_82, u55_85, u55_86, u55_88, u55_89, u55_92, u55_95, u55_96, u55_97, u55_98, u55_101, u55_103, u55_106, u55_107, u55_110, u55_113, u55_114, u55_115, u55_117, u55_119, u55_122, u55_124, u55_126, u55_129, u55_131, u55_132, u55_134, u55_136, u55_139, u55_142, u55_143, u55_146, u55_147, u55_148, u55_150, u55_152, u55_155, u55_156, u55_159, u55_161, s_isMan h, pu_some, pu_none, b01_e0, hx, false_and, not_false_iff, if_true, if_false]
/-- the least looks of a ship on which it sails with sound men -/
def lookR (men fleet x : Nat) : Nat → Nat → AMem → Option Nat × AMem
  | 0, _, m => (none, m)
  | r + 1, k, m =>
    let m2 := runM 44 19 men fleet (up m 29 x (nI k))
    if soundM 44 19 x men m2 = popM (m2 53 x) then (some k, m2) else lookR men fleet x r (k + 1) m2
theorem s_look (h : TS men inns fleet m) {x : Int32} : T S (f + 6) 56 0 [some (.ref 0), some (.int x), none] [] m Rt = if nI 0 ≤ x ∧ x < nI fleet then Rt (some (.int (optI (lookR men fleet x.toNatClampNeg 10 0 (becomeM m)).1))) (lookR men fleet x.toNatClampNeg 10 0 (becomeM m)).2 else Rt (some (.int (-2))) m := by
  have hb := h.2.2.2.2.2
  by_cases hx : nI 0 ≤ x ∧ x < nI fleet
  · obtain ⟨k0, hk0, rfl⟩ := P_nI hx (by omega)
    rw [if_pos hx]
    have key : ∀ (r k : Nat) (m : AMem), k + r = 10 → TT men inns fleet m → T S (f + 6) 56 24 [some (.ref 0), some (.int (nI k0)), some (.int (nI k))] [] m Rt = Rt (some (.int (optI (lookR men fleet k0 r k m).1))) (lookR men fleet k0 r k m).2 := by
      intro r
      induction r with
      | zero =>
        intro k m hk ht
        have hle : 10 ≤ k := by omega
        refine u56_24.trans ?_
        simp (disch := omega) only [u56_0, u56_1, u56_2, u56_5, u56_8, u56_10, u56_11, u56_12, u56_15, u56_16, u56_19, u56_22, u56_23, u56_25, u56_27, u56_30, u56_31, u56_34, u56_37, u56_38, u56_39, u56_40, u56_41, u56_44, u56_47, u56_48, u56_51, u56_52, u56_55, u56_56, u56_59, u56_62, u56_63, u56_64, u56_67, u56_70, u56_71, u56_72, u56_75, u56_78, u56_79, nI_le8, hle, if_true, lookR, optI]
      | succ r ih =>
        intro k m hk hs
        have hkm : ¬ 10 ≤ k := by omega
        have hB : inB (nI k0) 6 = true := inB8 (by omega) (by decide)
        have ht : TT men inns fleet (up m 29 k0 (nI k)) := TT_up hs (by omega)
        have h2 := TT_run ht
        have hk6 : k0 < 6 := by omega
        refine u56_24.trans ?_
        by_cases q : soundM 44 19 k0 men (runM 44 19 men fleet (up m 29 k0 (nI k))) = popM (runM 44 19 men fleet (up m 29 k0 (nI k)) 53 k0)
        · simp (disch := omega) only [u56_0, u56_1, u56_2, u56_5, u56_8, u56_10, u56_11, u56_12, u56_15, u56_16, u56_19, u56_22, u56_23, u56_25, u56_27, u56_30, u56_31, u56_34, u56_37, u56_38, u56_39, u56_40, u56_41, u56_44, u56_47, u56_48, u56_51, u56_52, u56_55, u56_56, u56_59, u56_62, u56_63, u56_64, u56_67, u56_70, u56_71, u56_72, u56_75, u56_78, u56_79, nI_le8, hkm, if_false, hB, nI_cl8, true_and, s_runO ht, pu_some, pu_none, s_sound (Or.inr ⟨rfl, rfl⟩) h2.1.2.2.2.1 hk6 h2.2.1, s_pop, q, if_true, lookR, optI_some]
        · simp (disch := omega) only [u56_0, u56_1, u56_2, u56_5, u56_8, u56_10, u56_11, u56_12, u56_15, u56_16, u56_19, u56_22, u56_23, u56_25, u56_27, u56_30, u56_31, u56_34, u56_37, u56_38, u56_39, u56_40, u56_41, u56_44, u56_47, u56_48, u56_51, u56_52, u56_55, u56_56, u56_59, u56_62, u56_63, u56_64, u56_67, u56_70, u56_71, u56_72, u56_75, u56_78, u56_79, nI_le8, hkm, if_false, hB, nI_cl8, true_and, s_runO ht, pu_some, pu_none, s_sound (Or.inr ⟨rfl, rfl⟩) h2.1.2.2.2.1 hk6 h2.2.1, s_pop, q, lookR, nI_add]
          exact ih (k + 1) _ (by omega) h2
    simp only [u56_0, u56_1, u56_2, u56_5, u56_8, u56_10, u56_11, u56_12, u56_15, u56_16, u56_19, u56_22, u56_23, u56_25, u56_27, u56_30, u56_31, u56_34, u56_37, u56_38, u56_39, u56_40, u56_41, u56_44, u56_47, u56_48, u56_51, u56_52, u56_55, u56_56, u56_59, u56_62, u56_63, u56_64, u56_67, u56_70, u56_71, u56_72, u56_75, u56_78, u56_79, s_isShip h, pu_some, pu_none, b01_e0, hx, and_self, not_true, if_false, s_become]
    rw [key 10 0 _ rfl (TT_bec h), nI_cl8 (by omega)]
  · rw [if_neg hx]
    simp only [u56_0, u56_1, u56_2, u56_5, u56_8, u56_10, u56_11, u56_12, u56_15, u56_16, u56_19, u56_22, u56_23, u56_25, u56_27, u56_30, u56_31, u56_34, u56_37, u56_38, u56_39, u56_40, u56_41, u56_44, u56_47, u56_48, u56_51, u56_52, u56_55, u56_56, u56_59, u56_62, u56_63, u56_64, u56_67, u56_70, u56_71, u56_72, u56_75, u56_78, u56_79, s_isShip h, pu_some, pu_none, b01_e0, hx, not_false_iff, if_true]
theorem sh1 {a : Nat} (h : a ≤ 6) : nI 1 <<< (nI a &&& 31) = nI (2 ^ a) := by
  have : a = 0 ∨ a = 1 ∨ a = 2 ∨ a = 3 ∨ a = 4 ∨ a = 5 ∨ a = 6 := by omega
  rcases this with rfl | rfl | rfl | rfl | rfl | rfl | rfl <;> decide
theorem p2_le {a : Nat} (h : a ≤ 6) : 2 ^ a ≤ 64 := by
  have : a = 0 ∨ a = 1 ∨ a = 2 ∨ a = 3 ∨ a = 4 ∨ a = 5 ∨ a = 6 := by omega
  rcases this with rfl | rfl | rfl | rfl | rfl | rfl | rfl <;> decide
theorem p2_lt {a : Nat} (h : a < 6) : 2 ^ a < 64 := by
  have : a = 0 ∨ a = 1 ∨ a = 2 ∨ a = 3 ∨ a = 4 ∨ a = 5 := by omega
  rcases this with rfl | rfl | rfl | rfl | rfl | rfl <;> decide
theorem p2_or {a b : Nat} (h : a < 6) (h2 : b < 6) : nI (2 ^ a) ||| nI (2 ^ b) = nI (2 ^ a ||| 2 ^ b) ∧ 2 ^ a ||| 2 ^ b < 64 := by
  have : a = 0 ∨ a = 1 ∨ a = 2 ∨ a = 3 ∨ a = 4 ∨ a = 5 := by omega
  have : b = 0 ∨ b = 1 ∨ b = 2 ∨ b = 3 ∨ b = 4 ∨ b = 5 := by omega
  rcases ‹a = 0 ∨ _› with rfl | rfl | rfl | rfl | rfl | rfl <;> rcases ‹b = 0 ∨ _› with rfl | rfl | rfl | rfl | rfl | rfl <;> decide
/-- on which day each man sails, for each set of ships that are away -/
def fateF (men fleet k : Nat) (m : AMem) : AMem :=
  let m2 := runM 44 19 men fleet (up m 19 4 (nI k))
  upA m2 58 (va_cpy (m2 48) (m2 58) 0 (k * 8) 8)
def fateM (men fleet : Nat) (m : AMem) : AMem := if m 0 10 = nI 0 then up (it (2 ^ fleet) (fateF men fleet) (becomeM m)) 0 10 (nI 1) else m
theorem TT_fate {k : Nat} (h : TT men inns fleet m) : TT men inns fleet (fateF men fleet k m) := TT_upA (TT_run (TT_up h (by omega))) (by omega)
theorem s_learn (h : TS men inns fleet m) : T S (f + 5) 58 0 [some (.ref 0), none] [] m Rt = Rt none (fateM men fleet m) := by
  unfold fateM
  have hf := h.2.2.2.2.2
  have hp := p2_le hf
  by_cases h0 : m 0 10 = nI 0
  · rw [if_pos h0]
    have e := it_run (fun k (m : AMem) => T S (f + 5) 58 21 [some (.ref 0), some (.int (nI k))] [] m Rt) (fateF men fleet) (fun _ m => TT men inns fleet m) (2 ^ fleet) (fun k _ m hs => TT_fate hs) (fun k hk m hs => by
      have hkm : ¬ 2 ^ fleet ≤ k := by omega
      have hk64 : ¬ 64 ≤ k := by omega
      have ht : TT men inns fleet (up m 19 4 (nI k)) := TT_up hs (by omega)
      have c0 : ¬ nI 0 < 0 := by decide
      have c8 : ¬ nI 8 < 0 := by decide
      have cd : ¬ nI (k * 8) < 0 := fun z => nI_pos (n := k * 8) (by omega) z
      have e1 : (nI 0).toNatClampNeg = 0 := nI_cl8 (by omega)
      have e2 : (nI 8).toNatClampNeg = 8 := nI_cl8 (by omega)
      have e3 : (nI (k * 8)).toNatClampNeg = k * 8 := nI_cl8 (by omega)
      have l1 : (0 + 8 ≤ 8) = True := by simp
      have l2 : (k * 8 + 8 ≤ 512) = True := by simp; omega
      refine u58_21.trans ?_
      simp (disch := omega) only [u58_0, u58_1, u58_4, u58_7, u58_8, u58_9, u58_12, u58_13, u58_16, u58_19, u58_20, u58_22, u58_23, u58_24, u58_27, u58_30, u58_31, u58_34, u58_35, u58_37, u58_40, u58_41, u58_44, u58_45, u58_48, u58_49, u58_52, u58_55, u58_56, u58_59, u58_62, u58_63, u58_64, u58_67, u58_68, u58_70, u58_71, u58_73, u58_76, u58_79, u58_82, u58_83, u58_84, u58_84v1, u58_87, hs.1.2.2.1, sh1 hf, nI_le8, hkm, hk64, if_false, s_runO ht, pu_some, pu_none, nI_mul8, c0, c8, cd, e1, e2, e3, l1, l2, not_false_iff, true_and, and_self, nI_add]
      rfl) (becomeM m) (TT_bec h)
    have hE : TT men inns fleet (it (2 ^ fleet) (fateF men fleet) (becomeM m)) := it_I (fateF men fleet) (fun _ m => TT men inns fleet m) (2 ^ fleet) (fun k _ m hs => TT_fate hs) (becomeM m) (TT_bec h) _ (Nat.le_refl _)
    refine Eq.trans ?_ (e.trans ?_)
    · simp only [u58_0, u58_1, u58_4, u58_7, u58_8, u58_9, u58_12, u58_13, u58_16, u58_19, u58_20, u58_22, u58_23, u58_24, u58_27, u58_30, u58_31, u58_34, u58_35, u58_37, u58_40, u58_41, u58_44, u58_45, u58_48, u58_49, u58_52, u58_55, u58_56, u58_59, u58_62, u58_63, u58_64, u58_67, u58_68, u58_70, u58_71, u58_73, u58_76, u58_79, u58_82, u58_83, u58_84, u58_84v1, u58_87, h0, if_true, s_become, pu_some, pu_none]
    · refine u58_21.trans ?_
      simp (disch := omega) only [u58_0, u58_1, u58_4, u58_7, u58_8, u58_9, u58_12, u58_13, u58_16, u58_19, u58_20, u58_22, u58_23, u58_24, u58_27, u58_30, u58_31, u58_34, u58_35, u58_37, u58_40, u58_41, u58_44, u58_45, u58_48, u58_49, u58_52, u58_55, u58_56, u58_59, u58_62, u58_63, u58_64, u58_67, u58_68, u58_70, u58_71, u58_73, u58_76, u58_79, u58_82, u58_83, u58_84, u58_84v1, u58_87, hE.1.2.2.1, sh1 hf, nI_le8, Nat.le_refl, if_true]
  · rw [if_neg h0]
    simp only [u58_0, u58_1, u58_4, u58_7, u58_8, u58_9, u58_12, u58_13, u58_16, u58_19, u58_20, u58_22, u58_23, u58_24, u58_27, u58_30, u58_31, u58_34, u58_35, u58_37, u58_40, u58_41, u58_44, u58_45, u58_48, u58_49, u58_52, u58_55, u58_56, u58_59, u58_62, u58_63, u58_64, u58_67, u58_68, u58_70, u58_71, u58_73, u58_76, u58_79, u58_82, u58_83, u58_84, u58_84v1, u58_87, h0, if_false]
theorem s_stays {w k : Nat} (hw : w < 64) (hk : k < 8) : T S (f + 2) 60 0 [some (.ref 0), some (.int (nI w)), some (.int (nI k))] [] m Rt = Rt (some (.int (b01 (m 58 (w * 8 + k) = -1)))) m := by
  have h1 := nI_P hw (by decide)
  by_cases q : m 58 (w * 8 + k) = -1
  · simp (disch := omega) only [u60_0, u60_1, u60_3, u60_6, u60_9, u60_10, u60_13, u60_14, u60_16, u60_17, u60_18, u60_19, u60_20, u60_21, u60_24, u60_25, u60_28, u60_29, s_isOneOf, pu_some, pu_none, b01_e0, h1, and_self, not_true, if_false, nI_mul8, nI_add, inB8, nI_cl8, true_and, q, if_true, nar_z1, b01_t]
    simp [q, b01]
  · simp (disch := omega) only [u60_0, u60_1, u60_3, u60_6, u60_9, u60_10, u60_13, u60_14, u60_16, u60_17, u60_18, u60_19, u60_20, u60_21, u60_24, u60_25, u60_28, u60_29, s_isOneOf, pu_some, pu_none, b01_e0, h1, and_self, not_true, if_false, nI_mul8, nI_add, inB8, nI_cl8, true_and, q, nar_z0]
    simp [q, b01]
end PLANS
