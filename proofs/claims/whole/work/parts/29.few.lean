section FEW
variable {S : AScr} {f : Nat} {m : AMem} {Rt : Option Value → AMem → Prop} {men inns fleet : Nat}
/-- the first set of ships without which he stays -/
def fewA (x : Nat) (m : AMem) : Nat → Nat → Option Nat
  | 0, _ => none
  | r + 1, a => if m 58 (2 ^ a * 8 + x) = -1 then some (2 ^ a) else fewA x m r (a + 1)
def fewC (x : Nat) (m : AMem) (a : Nat) : Nat → Nat → Option Nat
  | 0, _ => none
  | r + 1, b => if m 58 ((2 ^ a ||| 2 ^ b) * 8 + x) = -1 then some (2 ^ a ||| 2 ^ b) else fewC x m a r (b + 1)
def fewB (x : Nat) (m : AMem) (fleet : Nat) : Nat → Nat → Option Nat
  | 0, _ => none
  | r + 1, a => match fewC x m a (fleet - (a + 1)) (a + 1) with
    | some w => some w
    | none => fewB x m fleet r (a + 1)
def fewV (x : Nat) (m : AMem) (fleet : Nat) : Option Nat :=
  if m 58 (0 * 8 + x) = -1 then some 0 else match fewA x m fleet 0 with
    | some w => some w
    | none => fewB x m fleet fleet 0
theorem s_few (h : m 8 2 = nI fleet) (hf : fleet ≤ 6) {x : Nat} (hx : x < 8) : T S (f + 3) 59 0 [some (.ref 0), some (.int (nI x)), none, none] [] m Rt = Rt (some (.int (optI (fewV x m fleet)))) m := by
  have kA : ∀ (r a : Nat), a + r = fleet → T S (f + 3) 59 13 [some (.ref 0), some (.int (nI x)), some (.int (nI a)), none] [] m Rt = match fewA x m r a with | some w => Rt (some (.int (nI w))) m | none => T S (f + 3) 59 45 [some (.ref 0), some (.int (nI x)), some (.int (nI fleet)), none] [] m Rt := by
    intro r
    induction r with
    | zero =>
      intro a ha
      have hle : fleet ≤ a := by omega
      have hea : a = fleet := by omega
      refine u59_13.trans ?_
      simp (disch := omega) only [u59_0, u59_1, u59_2, u59_3, u59_6, u59_9, u59_10, u59_11, u59_12, u59_14, u59_15, u59_18, u59_21, u59_24, u59_25, u59_26, u59_27, u59_28, u59_29, u59_32, u59_35, u59_36, u59_37, u59_38, u59_39, u59_42, u59_46, u59_48, u59_49, u59_52, u59_55, u59_58, u59_59, u59_60, u59_61, u59_63, u59_64, u59_67, u59_70, u59_73, u59_74, u59_75, u59_76, u59_77, u59_78, u59_79, u59_80, u59_81, u59_82, u59_85, u59_88, u59_89, u59_90, u59_91, u59_92, u59_93, u59_94, u59_95, u59_96, u59_99, u59_102, u59_105, u59_108, u59_109, h, nI_le8, hle, if_true, fewA]
      rw [hea]
    | succ r ih =>
      intro a ha
      have hle : ¬ fleet ≤ a := by omega
      have ha6 : a ≤ 6 := by omega
      have hp : 2 ^ a < 64 := p2_lt (by omega)
      refine u59_13.trans ?_
      by_cases q : m 58 (2 ^ a * 8 + x) = -1
      · simp (disch := omega) only [u59_0, u59_1, u59_2, u59_3, u59_6, u59_9, u59_10, u59_11, u59_12, u59_14, u59_15, u59_18, u59_21, u59_24, u59_25, u59_26, u59_27, u59_28, u59_29, u59_32, u59_35, u59_36, u59_37, u59_38, u59_39, u59_42, u59_46, u59_48, u59_49, u59_52, u59_55, u59_58, u59_59, u59_60, u59_61, u59_63, u59_64, u59_67, u59_70, u59_73, u59_74, u59_75, u59_76, u59_77, u59_78, u59_79, u59_80, u59_81, u59_82, u59_85, u59_88, u59_89, u59_90, u59_91, u59_92, u59_93, u59_94, u59_95, u59_96, u59_99, u59_102, u59_105, u59_108, u59_109, h, nI_le8, hle, if_false, sh1 ha6, s_stays hp hx, pu_some, pu_none, b01_e0, q, not_true, fewA, if_true]
      · simp (disch := omega) only [u59_0, u59_1, u59_2, u59_3, u59_6, u59_9, u59_10, u59_11, u59_12, u59_14, u59_15, u59_18, u59_21, u59_24, u59_25, u59_26, u59_27, u59_28, u59_29, u59_32, u59_35, u59_36, u59_37, u59_38, u59_39, u59_42, u59_46, u59_48, u59_49, u59_52, u59_55, u59_58, u59_59, u59_60, u59_61, u59_63, u59_64, u59_67, u59_70, u59_73, u59_74, u59_75, u59_76, u59_77, u59_78, u59_79, u59_80, u59_81, u59_82, u59_85, u59_88, u59_89, u59_90, u59_91, u59_92, u59_93, u59_94, u59_95, u59_96, u59_99, u59_102, u59_105, u59_108, u59_109, h, nI_le8, hle, if_false, sh1 ha6, s_stays hp hx, pu_some, pu_none, b01_e0, q, not_false_iff, fewA, if_true, nI_add]
        exact ih (a + 1) (by omega)
  have kC : ∀ (a : Nat), a < 6 → ∀ (r b : Nat), b + r = fleet → T S (f + 3) 59 62 [some (.ref 0), some (.int (nI x)), some (.int (nI a)), some (.int (nI b))] [] m Rt = match fewC x m a r b with | some w => Rt (some (.int (nI w))) m | none => T S (f + 3) 59 102 [some (.ref 0), some (.int (nI x)), some (.int (nI a)), some (.int (nI fleet))] [] m Rt := by
    intro a ha r
    induction r with
    | zero =>
      intro b hb
      have hle : fleet ≤ b := by omega
      have heb : b = fleet := by omega
      refine u59_62.trans ?_
      simp (disch := omega) only [u59_0, u59_1, u59_2, u59_3, u59_6, u59_9, u59_10, u59_11, u59_12, u59_14, u59_15, u59_18, u59_21, u59_24, u59_25, u59_26, u59_27, u59_28, u59_29, u59_32, u59_35, u59_36, u59_37, u59_38, u59_39, u59_42, u59_46, u59_48, u59_49, u59_52, u59_55, u59_58, u59_59, u59_60, u59_61, u59_63, u59_64, u59_67, u59_70, u59_73, u59_74, u59_75, u59_76, u59_77, u59_78, u59_79, u59_80, u59_81, u59_82, u59_85, u59_88, u59_89, u59_90, u59_91, u59_92, u59_93, u59_94, u59_95, u59_96, u59_99, u59_105, u59_108, u59_109, h, nI_le8, hle, if_true, fewC]
      rw [heb]
    | succ r ih =>
      intro b hb
      have hle : ¬ fleet ≤ b := by omega
      have hb6 : b ≤ 6 := by omega
      have ha6 : a ≤ 6 := by omega
      obtain ⟨ho, hp⟩ := p2_or ha (show b < 6 by omega)
      refine u59_62.trans ?_
      by_cases q : m 58 ((2 ^ a ||| 2 ^ b) * 8 + x) = -1
      · simp (disch := omega) only [u59_0, u59_1, u59_2, u59_3, u59_6, u59_9, u59_10, u59_11, u59_12, u59_14, u59_15, u59_18, u59_21, u59_24, u59_25, u59_26, u59_27, u59_28, u59_29, u59_32, u59_35, u59_36, u59_37, u59_38, u59_39, u59_42, u59_46, u59_48, u59_49, u59_52, u59_55, u59_58, u59_59, u59_60, u59_61, u59_63, u59_64, u59_67, u59_70, u59_73, u59_74, u59_75, u59_76, u59_77, u59_78, u59_79, u59_80, u59_81, u59_82, u59_85, u59_88, u59_89, u59_90, u59_91, u59_92, u59_93, u59_94, u59_95, u59_96, u59_99, u59_105, u59_108, u59_109, h, nI_le8, hle, if_false, sh1 hb6, sh1 ha6, ho, s_stays hp hx, pu_some, pu_none, b01_e0, q, not_true, fewC, if_true]
      · simp (disch := omega) only [u59_0, u59_1, u59_2, u59_3, u59_6, u59_9, u59_10, u59_11, u59_12, u59_14, u59_15, u59_18, u59_21, u59_24, u59_25, u59_26, u59_27, u59_28, u59_29, u59_32, u59_35, u59_36, u59_37, u59_38, u59_39, u59_42, u59_46, u59_48, u59_49, u59_52, u59_55, u59_58, u59_59, u59_60, u59_61, u59_63, u59_64, u59_67, u59_70, u59_73, u59_74, u59_75, u59_76, u59_77, u59_78, u59_79, u59_80, u59_81, u59_82, u59_85, u59_88, u59_89, u59_90, u59_91, u59_92, u59_93, u59_94, u59_95, u59_96, u59_99, u59_105, u59_108, u59_109, h, nI_le8, hle, if_false, sh1 hb6, sh1 ha6, ho, s_stays hp hx, pu_some, pu_none, b01_e0, q, not_false_iff, fewC, if_true, nI_add]
        exact ih (b + 1) (by omega)
  have kB : ∀ (r a : Nat) (l : Option Value), a + r = fleet → T S (f + 3) 59 47 [some (.ref 0), some (.int (nI x)), some (.int (nI a)), l] [] m Rt = Rt (some (.int (optI (fewB x m fleet r a)))) m := by
    intro r
    induction r with
    | zero =>
      intro a l ha
      have hle : fleet ≤ a := by omega
      refine u59_47.trans ?_
      simp (disch := omega) only [u59_0, u59_1, u59_2, u59_3, u59_6, u59_9, u59_10, u59_11, u59_12, u59_14, u59_15, u59_18, u59_21, u59_24, u59_25, u59_26, u59_27, u59_28, u59_29, u59_32, u59_35, u59_36, u59_37, u59_38, u59_39, u59_42, u59_46, u59_48, u59_49, u59_52, u59_55, u59_58, u59_59, u59_60, u59_61, u59_63, u59_64, u59_67, u59_70, u59_73, u59_74, u59_75, u59_76, u59_77, u59_78, u59_79, u59_80, u59_81, u59_82, u59_85, u59_88, u59_89, u59_90, u59_91, u59_92, u59_93, u59_94, u59_95, u59_96, u59_99, u59_105, u59_108, u59_109, h, nI_le8, hle, if_true, fewB, optI]
    | succ r ih =>
      intro a l ha
      have hle : ¬ fleet ≤ a := by omega
      have e := kC a (by omega) (fleet - (a + 1)) (a + 1) (by omega)
      refine u59_47.trans ?_
      simp (disch := omega) only [u59_0, u59_1, u59_2, u59_3, u59_6, u59_9, u59_10, u59_11, u59_12, u59_14, u59_15, u59_18, u59_21, u59_24, u59_25, u59_26, u59_27, u59_28, u59_29, u59_32, u59_35, u59_36, u59_37, u59_38, u59_39, u59_42, u59_46, u59_48, u59_49, u59_52, u59_55, u59_58, u59_59, u59_60, u59_61, u59_63, u59_64, u59_67, u59_70, u59_73, u59_74, u59_75, u59_76, u59_77, u59_78, u59_79, u59_80, u59_81, u59_82, u59_85, u59_88, u59_89, u59_90, u59_91, u59_92, u59_93, u59_94, u59_95, u59_96, u59_99, u59_105, u59_108, u59_109, h, nI_le8, hle, if_false, nI_add, e, fewB]
      cases fewC x m a (fleet - (a + 1)) (a + 1) with
      | some w => rfl
      | none =>
        simp (disch := omega) only [u59_0, u59_1, u59_2, u59_3, u59_6, u59_9, u59_10, u59_11, u59_12, u59_14, u59_15, u59_18, u59_21, u59_24, u59_25, u59_26, u59_27, u59_28, u59_29, u59_32, u59_35, u59_36, u59_37, u59_38, u59_39, u59_42, u59_46, u59_48, u59_49, u59_52, u59_55, u59_58, u59_59, u59_60, u59_61, u59_63, u59_64, u59_67, u59_70, u59_73, u59_74, u59_75, u59_76, u59_77, u59_78, u59_79, u59_80, u59_81, u59_82, u59_85, u59_88, u59_89, u59_90, u59_91, u59_92, u59_93, u59_94, u59_95, u59_96, u59_99, u59_102, u59_105, u59_108, u59_109, nI_add]
        exact ih (a + 1) _ (by omega)
  unfold fewV
  have hp0 : 0 < 64 := by decide
  by_cases q : m 58 (0 * 8 + x) = -1
  · simp only [u59_0, u59_1, u59_2, u59_3, u59_6, u59_9, u59_10, u59_11, u59_12, u59_14, u59_15, u59_18, u59_21, u59_24, u59_25, u59_26, u59_27, u59_28, u59_29, u59_32, u59_35, u59_36, u59_37, u59_38, u59_39, u59_42, u59_46, u59_48, u59_49, u59_52, u59_55, u59_58, u59_59, u59_60, u59_61, u59_63, u59_64, u59_67, u59_70, u59_73, u59_74, u59_75, u59_76, u59_77, u59_78, u59_79, u59_80, u59_81, u59_82, u59_85, u59_88, u59_89, u59_90, u59_91, u59_92, u59_93, u59_94, u59_95, u59_96, u59_99, u59_102, u59_105, u59_108, u59_109, s_stays hp0 hx, pu_some, pu_none, b01_e0, q, not_true, if_false, if_true, optI_some]
  · have eA := kA fleet 0 (by omega)
    simp only [u59_0, u59_1, u59_2, u59_3, u59_6, u59_9, u59_10, u59_11, u59_12, u59_14, u59_15, u59_18, u59_21, u59_24, u59_25, u59_26, u59_27, u59_28, u59_29, u59_32, u59_35, u59_36, u59_37, u59_38, u59_39, u59_42, u59_46, u59_48, u59_49, u59_52, u59_55, u59_58, u59_59, u59_60, u59_61, u59_63, u59_64, u59_67, u59_70, u59_73, u59_74, u59_75, u59_76, u59_77, u59_78, u59_79, u59_80, u59_81, u59_82, u59_85, u59_88, u59_89, u59_90, u59_91, u59_92, u59_93, u59_94, u59_95, u59_96, u59_99, u59_102, u59_105, u59_108, u59_109, s_stays hp0 hx, pu_some, pu_none, b01_e0, q, not_false_iff, if_true, eA]
    cases fewA x m fleet 0 with
    | some w => rfl
    | none =>
      simp only [u59_0, u59_1, u59_2, u59_3, u59_6, u59_9, u59_10, u59_11, u59_12, u59_14, u59_15, u59_18, u59_21, u59_24, u59_25, u59_26, u59_27, u59_28, u59_29, u59_32, u59_35, u59_36, u59_37, u59_38, u59_39, u59_42, u59_45, u59_46, u59_48, u59_49, u59_52, u59_55, u59_58, u59_59, u59_60, u59_61, u59_63, u59_64, u59_67, u59_70, u59_73, u59_74, u59_75, u59_76, u59_77, u59_78, u59_79, u59_80, u59_81, u59_82, u59_85, u59_88, u59_89, u59_90, u59_91, u59_92, u59_93, u59_94, u59_95, u59_96, u59_99, u59_102, u59_105, u59_108, u59_109]
      exact kB fleet 0 none (by omega)
theorem few_lt (hf : fleet ≤ 6) {x w : Nat} (h : fewV x m fleet = some w) : w < 64 := by
  have hA : ∀ (r a : Nat), a + r = fleet → ∀ w, fewA x m r a = some w → w < 64 := by
    intro r
    induction r with
    | zero => intro a _ w e; exact absurd e (by simp [fewA])
    | succ r ih =>
      intro a ha w e
      unfold fewA at e
      split at e
      · have : w = 2 ^ a := (Option.some.inj e).symm
        rw [this]
        exact p2_lt (by omega)
      · exact ih (a + 1) (by omega) w e
  have hC : ∀ (a : Nat), a < 6 → ∀ (r b : Nat), b + r = fleet → ∀ w, fewC x m a r b = some w → w < 64 := by
    intro a ha r
    induction r with
    | zero => intro b _ w e; exact absurd e (by simp [fewC])
    | succ r ih =>
      intro b hb w e
      unfold fewC at e
      split at e
      · have : w = 2 ^ a ||| 2 ^ b := (Option.some.inj e).symm
        rw [this]
        exact (p2_or ha (by omega)).2
      · exact ih (b + 1) (by omega) w e
  have hB : ∀ (r a : Nat), a + r = fleet → ∀ w, fewB x m fleet r a = some w → w < 64 := by
    intro r
    induction r with
    | zero => intro a _ w e; exact absurd e (by simp [fewB])
    | succ r ih =>
      intro a ha w e
      unfold fewB at e
      split at e
      · rename_i v ev
        rw [← Option.some.inj e]
        exact hC a (by omega) _ _ (by omega) v ev
      · exact ih (a + 1) (by omega) w e
  unfold fewV at h
  split at h
  · rw [← Option.some.inj h]; decide
  · split at h
    · rename_i v ev
      rw [← Option.some.inj h]
      exact hA fleet 0 (by omega) v ev
    · exact hB fleet 0 (by omega) w h
/-- those without whom he stays -/
def leaveV (i : Int32) : Option Nat → Int32
  | none => -1
  | some w => if i = -1 then popM (nI w) else if i < popM (nI w) then (if i = nI 0 then ntzM (nI w) else nI 31 - nlzM (nI w)) else -1
theorem TS_fate (h : TS men inns fleet m) : TS men inns fleet (fateM men fleet m) := by
  unfold fateM
  split
  · have hE : TT men inns fleet (it (2 ^ fleet) (fateF men fleet) (becomeM m)) := it_I (fateF men fleet) (fun _ m => TT men inns fleet m) (2 ^ fleet) (fun k _ m hs => TT_fate hs) (becomeM m) (TT_bec h) _ (Nat.le_refl _)
    exact (TT_up hE (by omega)).1
  · exact h
theorem s_leave (h : TS men inns fleet m) {x i : Int32} : T S (f + 6) 57 0 [some (.ref 0), some (.int x), some (.int i), none, none] [] m Rt = if (nI 0 ≤ x ∧ x < nI men) ∧ (¬ i < -1 ∧ i < nI 2) then Rt (some (.int (leaveV i (fewV x.toNatClampNeg (fateM men fleet m) fleet)))) (fateM men fleet m) else Rt (some (.int (-2))) m := by
  have hb := h.2.2.2.1
  by_cases hx : nI 0 ≤ x ∧ x < nI men
  · by_cases h1 : i < -1
    · simp only [u57_0, u57_1, u57_2, u57_5, u57_8, u57_9, u57_10, u57_13, u57_14, u57_15, u57_18, u57_20, u57_21, u57_22, u57_25, u57_26, u57_27, u57_30, u57_31, u57_32, u57_33, u57_36, u57_37, u57_38, u57_39, u57_42, u57_44, u57_45, u57_46, u57_49, u57_51, u57_52, u57_53, u57_55, u57_58, u57_59, u57_60, u57_61, u57_64, u57_65, u57_68, u57_71, u57_73, u57_74, u57_77, u57_78, s_isMan h, pu_some, pu_none, b01_e0, hx, and_self, not_true, if_false, h1, if_true, false_and, and_false]
    · by_cases h2 : i < nI 2
      · obtain ⟨k0, hk0, rfl⟩ := P_nI hx (by omega)
        have ht := TS_fate h
        have hk8 : k0 < 8 := by omega
        rw [if_pos ⟨hx, h1, h2⟩]
        have e := fun Rt => s_few (S := S) (f := f + 2) (m := fateM men fleet m) (Rt := Rt) ht.2.2.1 ht.2.2.2.2.2 hk8
        rw [nI_cl8 (by omega)]
        cases ev : fewV k0 (fateM men fleet m) fleet with
        | none =>
          rw [ev] at e
          simp only [u57_0, u57_1, u57_2, u57_5, u57_8, u57_9, u57_10, u57_13, u57_14, u57_15, u57_18, u57_20, u57_21, u57_22, u57_25, u57_26, u57_27, u57_30, u57_31, u57_32, u57_33, u57_36, u57_37, u57_38, u57_39, u57_42, u57_44, u57_45, u57_46, u57_49, u57_51, u57_52, u57_53, u57_55, u57_58, u57_59, u57_60, u57_61, u57_64, u57_65, u57_68, u57_71, u57_73, u57_74, u57_77, u57_78, s_isMan h, pu_some, pu_none, b01_e0, hx, and_self, not_true, if_false, h1, h2, if_true, s_learn h, e, optI_none, leaveV]
        | some w =>
          rw [ev] at e
          have hw := few_lt ht.2.2.2.2.2 ev
          have hw1 := nI_ne1 (k := w) (by omega)
          by_cases i1 : i = -1
          · subst i1
            simp only [u57_0, u57_1, u57_2, u57_5, u57_8, u57_9, u57_10, u57_13, u57_14, u57_15, u57_18, u57_20, u57_21, u57_22, u57_25, u57_26, u57_27, u57_30, u57_31, u57_32, u57_33, u57_36, u57_37, u57_38, u57_39, u57_42, u57_44, u57_45, u57_46, u57_49, u57_51, u57_52, u57_53, u57_55, u57_58, u57_59, u57_60, u57_61, u57_64, u57_65, u57_68, u57_71, u57_73, u57_74, u57_77, u57_78, s_isMan h, pu_some, pu_none, b01_e0, hx, and_self, not_true, if_false, h1, h2, if_true, s_learn h, e, optI_some, hw1, s_pop, leaveV]
          · by_cases i2 : i < popM (nI w)
            · by_cases i3 : i = nI 0
              · simp only [u57_0, u57_1, u57_2, u57_5, u57_8, u57_9, u57_10, u57_13, u57_14, u57_15, u57_18, u57_20, u57_21, u57_22, u57_25, u57_26, u57_27, u57_30, u57_31, u57_32, u57_33, u57_36, u57_37, u57_38, u57_39, u57_42, u57_44, u57_45, u57_46, u57_49, u57_51, u57_52, u57_53, u57_55, u57_58, u57_59, u57_60, u57_61, u57_64, u57_65, u57_68, u57_71, u57_73, u57_74, u57_77, u57_78, s_isMan h, pu_some, pu_none, b01_e0, hx, and_self, not_true, if_false, h1, h2, if_true, s_learn h, e, optI_some, hw1, s_pop, leaveV, i1, i2]
                simp only [i3, u57_60, u57_61, u57_64, u57_65, u57_68, u57_78, if_true, s_ntz, pu_some, pu_none]
              · simp only [u57_0, u57_1, u57_2, u57_5, u57_8, u57_9, u57_10, u57_13, u57_14, u57_15, u57_18, u57_20, u57_21, u57_22, u57_25, u57_26, u57_27, u57_30, u57_31, u57_32, u57_33, u57_36, u57_37, u57_38, u57_39, u57_42, u57_44, u57_45, u57_46, u57_49, u57_51, u57_52, u57_53, u57_55, u57_58, u57_59, u57_60, u57_61, u57_64, u57_65, u57_68, u57_71, u57_73, u57_74, u57_77, u57_78, s_isMan h, pu_some, pu_none, b01_e0, hx, and_self, not_true, if_false, h1, h2, if_true, s_learn h, e, optI_some, hw1, s_pop, leaveV, i1, i2, i3, s_nlz]
            · simp only [u57_0, u57_1, u57_2, u57_5, u57_8, u57_9, u57_10, u57_13, u57_14, u57_15, u57_18, u57_20, u57_21, u57_22, u57_25, u57_26, u57_27, u57_30, u57_31, u57_32, u57_33, u57_36, u57_37, u57_38, u57_39, u57_42, u57_44, u57_45, u57_46, u57_49, u57_51, u57_52, u57_53, u57_55, u57_58, u57_59, u57_60, u57_61, u57_64, u57_65, u57_68, u57_71, u57_73, u57_74, u57_77, u57_78, s_isMan h, pu_some, pu_none, b01_e0, hx, and_self, not_true, if_false, h1, h2, if_true, s_learn h, e, optI_some, hw1, s_pop, leaveV, i1, i2]
      · simp only [u57_0, u57_1, u57_2, u57_5, u57_8, u57_9, u57_10, u57_13, u57_14, u57_15, u57_18, u57_20, u57_21, u57_22, u57_25, u57_26, u57_27, u57_30, u57_31, u57_32, u57_33, u57_36, u57_37, u57_38, u57_39, u57_42, u57_44, u57_45, u57_46, u57_49, u57_51, u57_52, u57_53, u57_55, u57_58, u57_59, u57_60, u57_61, u57_64, u57_65, u57_68, u57_71, u57_73, u57_74, u57_77, u57_78, s_isMan h, pu_some, pu_none, b01_e0, hx, and_self, not_true, if_false, h1, h2, and_false]
  · simp only [u57_0, u57_1, u57_2, u57_5, u57_8, u57_9, u57_10, u57_13, u57_14, u57_15, u57_18, u57_20, u57_21, u57_22, u57_25, u57_26, u57_27, u57_30, u57_31, u57_32, u57_33, u57_36, u57_37, u57_38, u57_39, u57_42, u57_44, u57_45, u57_46, u57_49, u57_51, u57_52, u57_53, u57_55, u57_58, u57_59, u57_60, u57_61, u57_64, u57_65, u57_68, u57_71, u57_73, u57_74, u57_77, u57_78, s_isMan h, pu_some, pu_none, b01_e0, hx, false_and, not_false_iff, if_true, if_false]
end FEW
