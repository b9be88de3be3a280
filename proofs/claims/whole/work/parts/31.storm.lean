section STORM
variable {S : AScr} {f : Nat} {m : AMem} {Rt : Option Value → AMem → Prop} {men inns fleet : Nat}
def weightL (n : Nat) (c a : Int32) : Int64 := it n (fun k (w : Int64) => w * (if nI k < a then (nI 16 - c).toInt64 else c.toInt64)) (lN 1)
theorem s_weight (h : m 8 2 = nI fleet) (hf : fleet ≤ 6) {c a : Int32} : T S (f + 1) 71 0 [some (.ref 0), some (.int c), some (.int a), none, none, none] [] m Rt = Rt (some (.long (weightL fleet c a))) m := by
  have e := it_run (fun k (w : Int64) => T S (f + 1) 71 5 [some (.ref 0), some (.int c), some (.int a), some (.long w), none, some (.int (nI k))] [] m Rt) (fun k (w : Int64) => w * (if nI k < a then (nI 16 - c).toInt64 else c.toInt64)) (fun _ _ => True) fleet (fun _ _ _ _ => trivial) (fun k hk w _ => by
    have hle : ¬ fleet ≤ k := by omega
    refine u71_5.trans ?_
    by_cases q : nI k < a
    · simp (disch := omega) only [u71_0, u71_1, u71_2, u71_3, u71_7, u71_8, u71_11, u71_14, u71_17, u71_18, u71_20, u71_21, u71_24, u71_26, u71_27, u71_28, u71_29, u71_32, u71_33, u71_34, u71_35, u71_36, u71_39, u71_42, u71_43, h, nI_le8, hle, if_false, le_n a (nI k), q, not_true, if_true, nI_add]
    · simp (disch := omega) only [u71_0, u71_1, u71_2, u71_3, u71_7, u71_8, u71_11, u71_14, u71_17, u71_18, u71_20, u71_21, u71_24, u71_26, u71_27, u71_28, u71_29, u71_32, u71_33, u71_34, u71_35, u71_36, u71_39, u71_42, u71_43, h, nI_le8, hle, if_false, le_n a (nI k), q, not_false_iff, if_true, nI_add]) (lN 1) trivial
  refine Eq.trans ?_ (e.trans ?_)
  · simp only [u71_0, u71_1, u71_2, u71_3, u71_7, u71_8, u71_11, u71_14, u71_17, u71_18, u71_20, u71_21, u71_24, u71_26, u71_27, u71_28, u71_29, u71_32, u71_33, u71_34, u71_35, u71_36, u71_39, u71_42, u71_43]
  · refine u71_5.trans ?_
    simp (disch := omega) only [u71_0, u71_1, u71_2, u71_3, u71_7, u71_8, u71_11, u71_14, u71_17, u71_18, u71_20, u71_21, u71_24, u71_26, u71_27, u71_28, u71_29, u71_32, u71_33, u71_34, u71_35, u71_36, u71_39, u71_42, u71_43, h, nI_le8, Nat.le_refl, if_true]
    rfl
/-- how likely it is, and of how much -/
def stormA (fleet x : Nat) (c day : Int32) (m : AMem) : Int64 := it (2 ^ fleet) (fun k (a : Int64) => if ¬ m 58 (k * 8 + x) = -1 ∧ ¬ day < m 58 (k * 8 + x) then a + weightL fleet c (popM (nI k)) else a) (lN 0)
def halfR : Nat → Int64 → Int64 → Int64 × Int64
  | 0, a, b => (a, b)
  | r + 1, a, b => if lg_cmp (a - a / 2 * 2) (lN 0) = nI 0 then (if lg_cmp b (lN 1) ≤ nI 0 then (a, b) else halfR r (a / 2) (b / 2)) else (a, b)
def stormB (fleet : Nat) : Int64 := lN 1 <<< ((nI (4 * fleet)).toInt64 &&& 63)
def stormV (w : Int32) (p : Int64 × Int64) : Int64 := if w = nI 0 then p.1 else p.2
set_option maxHeartbeats 1000000 in
theorem s_storm (h : TS men inns fleet m) {c x d w : Int32} : T S (f + 6) 70 0 [some (.ref 0), some (.int c), some (.int x), some (.int d), some (.int w), none, none, none, none, none, none] [] m Rt = if (¬ c < nI 0 ∧ ¬ nI 16 < c) ∧ (nI 0 ≤ x ∧ x < nI men) ∧ (nI 0 ≤ d ∧ d < nI 30) ∧ (nI 0 ≤ w ∧ w < nI 2) then Rt (some (.long (stormV w (halfR 24 (stormA fleet x.toNatClampNeg c d (fateM men fleet m)) (stormB fleet))))) (fateM men fleet m) else Rt (some (.long (-9223372036854775806))) m := by
  have hb := h.2.2.2.1
  have hf := h.2.2.2.2.2
  by_cases c1 : c < nI 0
  · simp only [u70_0, u70_1, u70_4, u70_5, u70_7, u70_10, u70_11, u70_12, u70_15, u70_18, u70_19, u70_22, u70_25, u70_27, u70_28, u70_31, u70_34, u70_37, u70_38, u70_39, u70_42, u70_43, u70_45, u70_46, u70_47, u70_48, u70_51, u70_54, u70_55, u70_56, u70_58, u70_59, u70_63, u70_64, u70_65, u70_68, u70_71, u70_72, u70_75, u70_77, u70_79, u70_82, u70_83, u70_86, u70_88, u70_90, u70_91, u70_92, u70_93, u70_94, u70_96, u70_98, u70_99, u70_102, u70_104, u70_105, u70_108, u70_110, u70_111, u70_112, u70_114, u70_117, u70_120, u70_121, u70_123, u70_126, u70_129, u70_130, u70_134, u70_136, u70_139, u70_141, u70_144, u70_145, u70_146, u70_147, u70_150, u70_152, u70_153, u70_154, u70_157, u70_159, u70_162, u70_163, u70_165, u70_167, u70_170, u70_171, u70_173, u70_176, u70_179, u70_181, u70_184, u70_186, u70_189, u70_191, c1, if_true, not_true, false_and, if_false]
  by_cases c2 : nI 16 < c
  · simp only [u70_0, u70_1, u70_4, u70_5, u70_7, u70_10, u70_11, u70_12, u70_15, u70_18, u70_19, u70_22, u70_25, u70_27, u70_28, u70_31, u70_34, u70_37, u70_38, u70_39, u70_42, u70_43, u70_45, u70_46, u70_47, u70_48, u70_51, u70_54, u70_55, u70_56, u70_58, u70_59, u70_63, u70_64, u70_65, u70_68, u70_71, u70_72, u70_75, u70_77, u70_79, u70_82, u70_83, u70_86, u70_88, u70_90, u70_91, u70_92, u70_93, u70_94, u70_96, u70_98, u70_99, u70_102, u70_104, u70_105, u70_108, u70_110, u70_111, u70_112, u70_114, u70_117, u70_120, u70_121, u70_123, u70_126, u70_129, u70_130, u70_134, u70_136, u70_139, u70_141, u70_144, u70_145, u70_146, u70_147, u70_150, u70_152, u70_153, u70_154, u70_157, u70_159, u70_162, u70_163, u70_165, u70_167, u70_170, u70_171, u70_173, u70_176, u70_179, u70_181, u70_184, u70_186, u70_189, u70_191, c1, c2, if_true, not_true, not_false_iff, false_and, and_false, if_false]
  by_cases hx : nI 0 ≤ x ∧ x < nI men
  · by_cases hd : nI 0 ≤ d ∧ d < nI 30
    · by_cases hw : nI 0 ≤ w ∧ w < nI 2
      · obtain ⟨k0, hk0, rfl⟩ := P_nI hx (by omega)
        rw [if_pos ⟨⟨c1, c2⟩, hx, hd, hw⟩, nI_cl8 (by omega)]
        have ht := TS_fate h
        have hp := p2_le hf
        have hl0 : ¬ (2 : Int64) = 0 := by decide
        have e1 := it_runL (fun k (a : Int64) (l : Option Value) => T S (f + 6) 70 61 [some (.ref 0), some (.int c), some (.int (nI k0)), some (.int d), some (.int w), some (.long a), none, some (.long (stormB fleet)), none, some (.int (nI k)), l] [] (fateM men fleet m) Rt) (fun k (a : Int64) => if ¬ fateM men fleet m 58 (k * 8 + k0) = -1 ∧ ¬ d < fateM men fleet m 58 (k * 8 + k0) then a + weightL fleet c (popM (nI k)) else a) (fun _ _ => True) (2 ^ fleet) (fun _ _ _ _ => trivial) (fun k hk a l _ => by
          have hle : ¬ 2 ^ fleet ≤ k := by omega
          have hk64 : ¬ 64 ≤ k := by omega
          have hB : inB (nI (k * 8 + k0)) 512 = true := inB8 (by omega) (by decide)
          refine ⟨some (.int (fateM men fleet m 58 (k * 8 + k0))), u70_61.trans ?_⟩
          by_cases q1 : fateM men fleet m 58 (k * 8 + k0) = -1
          · simp (disch := omega) only [u70_0, u70_1, u70_4, u70_5, u70_7, u70_10, u70_11, u70_12, u70_15, u70_18, u70_19, u70_22, u70_25, u70_27, u70_28, u70_31, u70_34, u70_37, u70_38, u70_39, u70_42, u70_43, u70_45, u70_46, u70_47, u70_48, u70_51, u70_54, u70_55, u70_56, u70_58, u70_59, u70_63, u70_64, u70_65, u70_68, u70_71, u70_72, u70_75, u70_77, u70_79, u70_82, u70_83, u70_86, u70_88, u70_90, u70_91, u70_92, u70_93, u70_94, u70_96, u70_98, u70_99, u70_102, u70_104, u70_105, u70_108, u70_110, u70_111, u70_112, u70_114, u70_117, u70_120, u70_121, u70_123, u70_126, u70_129, u70_130, u70_134, u70_136, u70_139, u70_141, u70_144, u70_145, u70_146, u70_147, u70_150, u70_152, u70_153, u70_154, u70_157, u70_159, u70_162, u70_163, u70_165, u70_167, u70_170, u70_171, u70_173, u70_176, u70_179, u70_181, u70_184, u70_186, u70_189, u70_191, ht.2.2.1, sh1 hf, nI_le8, hle, hk64, if_false, nI_mul8, nI_add, hB, nI_cl8, true_and, q1, if_true, not_true, false_and]
          · by_cases q2 : d < fateM men fleet m 58 (k * 8 + k0)
            · simp (disch := omega) only [u70_0, u70_1, u70_4, u70_5, u70_7, u70_10, u70_11, u70_12, u70_15, u70_18, u70_19, u70_22, u70_25, u70_27, u70_28, u70_31, u70_34, u70_37, u70_38, u70_39, u70_42, u70_43, u70_45, u70_46, u70_47, u70_48, u70_51, u70_54, u70_55, u70_56, u70_58, u70_59, u70_63, u70_64, u70_65, u70_68, u70_71, u70_72, u70_75, u70_77, u70_79, u70_82, u70_83, u70_86, u70_88, u70_90, u70_91, u70_92, u70_93, u70_94, u70_96, u70_98, u70_99, u70_102, u70_104, u70_105, u70_108, u70_110, u70_111, u70_112, u70_114, u70_117, u70_120, u70_121, u70_123, u70_126, u70_129, u70_130, u70_134, u70_136, u70_139, u70_141, u70_144, u70_145, u70_146, u70_147, u70_150, u70_152, u70_153, u70_154, u70_157, u70_159, u70_162, u70_163, u70_165, u70_167, u70_170, u70_171, u70_173, u70_176, u70_179, u70_181, u70_184, u70_186, u70_189, u70_191, ht.2.2.1, sh1 hf, nI_le8, hle, hk64, if_false, nI_mul8, nI_add, hB, nI_cl8, true_and, q1, q2, if_true, not_true, and_false]
            · simp (disch := omega) only [u70_0, u70_1, u70_4, u70_5, u70_7, u70_10, u70_11, u70_12, u70_15, u70_18, u70_19, u70_22, u70_25, u70_27, u70_28, u70_31, u70_34, u70_37, u70_38, u70_39, u70_42, u70_43, u70_45, u70_46, u70_47, u70_48, u70_51, u70_54, u70_55, u70_56, u70_58, u70_59, u70_63, u70_64, u70_65, u70_68, u70_71, u70_72, u70_75, u70_77, u70_79, u70_82, u70_83, u70_86, u70_88, u70_90, u70_91, u70_92, u70_93, u70_94, u70_96, u70_98, u70_99, u70_102, u70_104, u70_105, u70_108, u70_110, u70_111, u70_112, u70_114, u70_117, u70_120, u70_121, u70_123, u70_126, u70_129, u70_130, u70_134, u70_136, u70_139, u70_141, u70_144, u70_145, u70_146, u70_147, u70_150, u70_152, u70_153, u70_154, u70_157, u70_159, u70_162, u70_163, u70_165, u70_167, u70_170, u70_171, u70_173, u70_176, u70_179, u70_181, u70_184, u70_186, u70_189, u70_191, ht.2.2.1, sh1 hf, nI_le8, hle, hk64, if_false, nI_mul8, nI_add, hB, nI_cl8, true_and, q1, q2, if_true, not_false_iff, and_self, s_pop, s_weight ht.2.2.1 hf, pu_some, pu_none]) (lN 0) none trivial
        obtain ⟨l1, e1⟩ := e1
        have kH : ∀ (r i : Nat) (a b : Int64) (l : Option Value), i + r = 24 → T S (f + 6) 70 132 [some (.ref 0), some (.int c), some (.int (nI k0)), some (.int d), some (.int w), some (.long a), none, some (.long b), none, some (.int (nI i)), l] [] (fateM men fleet m) Rt = Rt (some (.long (stormV w (halfR r a b)))) (fateM men fleet m) := by
          intro r
          induction r with
          | zero =>
            intro i a b l hi
            have hle : 24 ≤ i := by omega
            refine u70_132.trans ?_
            unfold stormV halfR
            by_cases w0 : w = nI 0
            · simp (disch := omega) only [u70_0, u70_1, u70_4, u70_5, u70_7, u70_10, u70_11, u70_12, u70_15, u70_18, u70_19, u70_22, u70_25, u70_27, u70_28, u70_31, u70_34, u70_37, u70_38, u70_39, u70_42, u70_43, u70_45, u70_46, u70_47, u70_48, u70_51, u70_54, u70_55, u70_56, u70_58, u70_59, u70_63, u70_64, u70_65, u70_68, u70_71, u70_72, u70_75, u70_77, u70_79, u70_82, u70_83, u70_86, u70_88, u70_90, u70_91, u70_92, u70_93, u70_94, u70_96, u70_98, u70_99, u70_102, u70_104, u70_105, u70_108, u70_110, u70_111, u70_112, u70_114, u70_117, u70_120, u70_121, u70_123, u70_126, u70_129, u70_130, u70_134, u70_136, u70_139, u70_141, u70_144, u70_145, u70_146, u70_147, u70_150, u70_152, u70_153, u70_154, u70_157, u70_159, u70_162, u70_163, u70_165, u70_167, u70_170, u70_171, u70_173, u70_176, u70_179, u70_181, u70_184, u70_186, u70_189, u70_191, nI_le8, hle, if_true, w0]
            · simp (disch := omega) only [u70_0, u70_1, u70_4, u70_5, u70_7, u70_10, u70_11, u70_12, u70_15, u70_18, u70_19, u70_22, u70_25, u70_27, u70_28, u70_31, u70_34, u70_37, u70_38, u70_39, u70_42, u70_43, u70_45, u70_46, u70_47, u70_48, u70_51, u70_54, u70_55, u70_56, u70_58, u70_59, u70_63, u70_64, u70_65, u70_68, u70_71, u70_72, u70_75, u70_77, u70_79, u70_82, u70_83, u70_86, u70_88, u70_90, u70_91, u70_92, u70_93, u70_94, u70_96, u70_98, u70_99, u70_102, u70_104, u70_105, u70_108, u70_110, u70_111, u70_112, u70_114, u70_117, u70_120, u70_121, u70_123, u70_126, u70_129, u70_130, u70_134, u70_136, u70_139, u70_141, u70_144, u70_145, u70_146, u70_147, u70_150, u70_152, u70_153, u70_154, u70_157, u70_159, u70_162, u70_163, u70_165, u70_167, u70_170, u70_171, u70_173, u70_176, u70_179, u70_181, u70_184, u70_186, u70_189, u70_191, nI_le8, hle, if_true, w0, if_false]
          | succ r ih =>
            intro i a b l hi
            have hle : ¬ 24 ≤ i := by omega
            refine u70_132.trans ?_
            unfold halfR
            by_cases q1 : lg_cmp (a - a / 2 * 2) (lN 0) = nI 0
            · by_cases q2 : lg_cmp b (lN 1) ≤ nI 0
              · unfold stormV
                by_cases w0 : w = nI 0
                · simp (disch := omega) only [u70_0, u70_1, u70_4, u70_5, u70_7, u70_10, u70_11, u70_12, u70_15, u70_18, u70_19, u70_22, u70_25, u70_27, u70_28, u70_31, u70_34, u70_37, u70_38, u70_39, u70_42, u70_43, u70_45, u70_46, u70_47, u70_48, u70_51, u70_54, u70_55, u70_56, u70_58, u70_59, u70_63, u70_64, u70_65, u70_68, u70_71, u70_72, u70_75, u70_77, u70_79, u70_82, u70_83, u70_86, u70_88, u70_90, u70_91, u70_92, u70_93, u70_94, u70_96, u70_98, u70_99, u70_102, u70_104, u70_105, u70_108, u70_110, u70_111, u70_112, u70_114, u70_117, u70_120, u70_121, u70_123, u70_126, u70_129, u70_130, u70_134, u70_136, u70_139, u70_141, u70_144, u70_145, u70_146, u70_147, u70_150, u70_152, u70_153, u70_154, u70_157, u70_159, u70_162, u70_163, u70_165, u70_167, u70_170, u70_171, u70_173, u70_176, u70_179, u70_181, u70_184, u70_186, u70_189, u70_191, nI_le8, hle, if_false, hl0, not_false_iff, true_and, q1, q2, if_true, w0]
                · simp (disch := omega) only [u70_0, u70_1, u70_4, u70_5, u70_7, u70_10, u70_11, u70_12, u70_15, u70_18, u70_19, u70_22, u70_25, u70_27, u70_28, u70_31, u70_34, u70_37, u70_38, u70_39, u70_42, u70_43, u70_45, u70_46, u70_47, u70_48, u70_51, u70_54, u70_55, u70_56, u70_58, u70_59, u70_63, u70_64, u70_65, u70_68, u70_71, u70_72, u70_75, u70_77, u70_79, u70_82, u70_83, u70_86, u70_88, u70_90, u70_91, u70_92, u70_93, u70_94, u70_96, u70_98, u70_99, u70_102, u70_104, u70_105, u70_108, u70_110, u70_111, u70_112, u70_114, u70_117, u70_120, u70_121, u70_123, u70_126, u70_129, u70_130, u70_134, u70_136, u70_139, u70_141, u70_144, u70_145, u70_146, u70_147, u70_150, u70_152, u70_153, u70_154, u70_157, u70_159, u70_162, u70_163, u70_165, u70_167, u70_170, u70_171, u70_173, u70_176, u70_179, u70_181, u70_184, u70_186, u70_189, u70_191, nI_le8, hle, if_false, hl0, not_false_iff, true_and, q1, q2, if_true, w0]
              · simp (disch := omega) only [u70_0, u70_1, u70_4, u70_5, u70_7, u70_10, u70_11, u70_12, u70_15, u70_18, u70_19, u70_22, u70_25, u70_27, u70_28, u70_31, u70_34, u70_37, u70_38, u70_39, u70_42, u70_43, u70_45, u70_46, u70_47, u70_48, u70_51, u70_54, u70_55, u70_56, u70_58, u70_59, u70_63, u70_64, u70_65, u70_68, u70_71, u70_72, u70_75, u70_77, u70_79, u70_82, u70_83, u70_86, u70_88, u70_90, u70_91, u70_92, u70_93, u70_94, u70_96, u70_98, u70_99, u70_102, u70_104, u70_105, u70_108, u70_110, u70_111, u70_112, u70_114, u70_117, u70_120, u70_121, u70_123, u70_126, u70_129, u70_130, u70_134, u70_136, u70_139, u70_141, u70_144, u70_145, u70_146, u70_147, u70_150, u70_152, u70_153, u70_154, u70_157, u70_159, u70_162, u70_163, u70_165, u70_167, u70_170, u70_171, u70_173, u70_176, u70_179, u70_181, u70_184, u70_186, u70_189, u70_191, nI_le8, hle, if_false, hl0, not_false_iff, true_and, q1, q2, if_true, nI_add]
                exact ih (i + 1) _ _ _ (by omega)
            · unfold stormV
              by_cases w0 : w = nI 0
              · simp (disch := omega) only [u70_0, u70_1, u70_4, u70_5, u70_7, u70_10, u70_11, u70_12, u70_15, u70_18, u70_19, u70_22, u70_25, u70_27, u70_28, u70_31, u70_34, u70_37, u70_38, u70_39, u70_42, u70_43, u70_45, u70_46, u70_47, u70_48, u70_51, u70_54, u70_55, u70_56, u70_58, u70_59, u70_63, u70_64, u70_65, u70_68, u70_71, u70_72, u70_75, u70_77, u70_79, u70_82, u70_83, u70_86, u70_88, u70_90, u70_91, u70_92, u70_93, u70_94, u70_96, u70_98, u70_99, u70_102, u70_104, u70_105, u70_108, u70_110, u70_111, u70_112, u70_114, u70_117, u70_120, u70_121, u70_123, u70_126, u70_129, u70_130, u70_134, u70_136, u70_139, u70_141, u70_144, u70_145, u70_146, u70_147, u70_150, u70_152, u70_153, u70_154, u70_157, u70_159, u70_162, u70_163, u70_165, u70_167, u70_170, u70_171, u70_173, u70_176, u70_179, u70_181, u70_184, u70_186, u70_189, u70_191, nI_le8, hle, if_false, hl0, not_false_iff, true_and, q1, if_true, w0]
              · simp (disch := omega) only [u70_0, u70_1, u70_4, u70_5, u70_7, u70_10, u70_11, u70_12, u70_15, u70_18, u70_19, u70_22, u70_25, u70_27, u70_28, u70_31, u70_34, u70_37, u70_38, u70_39, u70_42, u70_43, u70_45, u70_46, u70_47, u70_48, u70_51, u70_54, u70_55, u70_56, u70_58, u70_59, u70_63, u70_64, u70_65, u70_68, u70_71, u70_72, u70_75, u70_77, u70_79, u70_82, u70_83, u70_86, u70_88, u70_90, u70_91, u70_92, u70_93, u70_94, u70_96, u70_98, u70_99, u70_102, u70_104, u70_105, u70_108, u70_110, u70_111, u70_112, u70_114, u70_117, u70_120, u70_121, u70_123, u70_126, u70_129, u70_130, u70_134, u70_136, u70_139, u70_141, u70_144, u70_145, u70_146, u70_147, u70_150, u70_152, u70_153, u70_154, u70_157, u70_159, u70_162, u70_163, u70_165, u70_167, u70_170, u70_171, u70_173, u70_176, u70_179, u70_181, u70_184, u70_186, u70_189, u70_191, nI_le8, hle, if_false, hl0, not_false_iff, true_and, q1, if_true, w0]
        refine Eq.trans ?_ (e1.trans ?_)
        · simp only [u70_0, u70_1, u70_4, u70_5, u70_7, u70_10, u70_11, u70_12, u70_15, u70_18, u70_19, u70_22, u70_25, u70_27, u70_28, u70_31, u70_34, u70_37, u70_38, u70_39, u70_42, u70_43, u70_45, u70_46, u70_47, u70_48, u70_51, u70_54, u70_55, u70_56, u70_58, u70_59, u70_63, u70_64, u70_65, u70_68, u70_71, u70_72, u70_75, u70_77, u70_79, u70_82, u70_83, u70_86, u70_88, u70_90, u70_91, u70_92, u70_93, u70_94, u70_96, u70_98, u70_99, u70_102, u70_104, u70_105, u70_108, u70_110, u70_111, u70_112, u70_114, u70_117, u70_120, u70_121, u70_123, u70_126, u70_129, u70_130, u70_134, u70_136, u70_139, u70_141, u70_144, u70_145, u70_146, u70_147, u70_150, u70_152, u70_153, u70_154, u70_157, u70_159, u70_162, u70_163, u70_165, u70_167, u70_170, u70_171, u70_173, u70_176, u70_179, u70_181, u70_184, u70_186, u70_189, u70_191, c1, c2, if_false, s_isMan h, s_isDay, s_isOneOf, pu_some, pu_none, b01_e0, hx, hd, hw, and_self, not_true, s_learn h, ht.2.2.1, nI_mul8]
          rfl
        · refine u70_61.trans ?_
          simp (disch := omega) only [u70_0, u70_1, u70_4, u70_5, u70_7, u70_10, u70_11, u70_12, u70_15, u70_18, u70_19, u70_22, u70_25, u70_27, u70_28, u70_31, u70_34, u70_37, u70_38, u70_39, u70_42, u70_43, u70_45, u70_46, u70_47, u70_48, u70_51, u70_54, u70_55, u70_56, u70_58, u70_59, u70_63, u70_64, u70_65, u70_68, u70_71, u70_72, u70_75, u70_77, u70_79, u70_82, u70_83, u70_86, u70_88, u70_90, u70_91, u70_92, u70_93, u70_94, u70_96, u70_98, u70_99, u70_102, u70_104, u70_105, u70_108, u70_110, u70_111, u70_112, u70_114, u70_117, u70_120, u70_121, u70_123, u70_126, u70_129, u70_130, u70_134, u70_136, u70_139, u70_141, u70_144, u70_145, u70_146, u70_147, u70_150, u70_152, u70_153, u70_154, u70_157, u70_159, u70_162, u70_163, u70_165, u70_167, u70_170, u70_171, u70_173, u70_176, u70_179, u70_181, u70_184, u70_186, u70_189, u70_191, ht.2.2.1, sh1 hf, nI_le8, Nat.le_refl, if_true]
          exact kH 24 0 _ _ _ rfl
      · simp only [u70_0, u70_1, u70_4, u70_5, u70_7, u70_10, u70_11, u70_12, u70_15, u70_18, u70_19, u70_22, u70_25, u70_27, u70_28, u70_31, u70_34, u70_37, u70_38, u70_39, u70_42, u70_43, u70_45, u70_46, u70_47, u70_48, u70_51, u70_54, u70_55, u70_56, u70_58, u70_59, u70_63, u70_64, u70_65, u70_68, u70_71, u70_72, u70_75, u70_77, u70_79, u70_82, u70_83, u70_86, u70_88, u70_90, u70_91, u70_92, u70_93, u70_94, u70_96, u70_98, u70_99, u70_102, u70_104, u70_105, u70_108, u70_110, u70_111, u70_112, u70_114, u70_117, u70_120, u70_121, u70_123, u70_126, u70_129, u70_130, u70_134, u70_136, u70_139, u70_141, u70_144, u70_145, u70_146, u70_147, u70_150, u70_152, u70_153, u70_154, u70_157, u70_159, u70_162, u70_163, u70_165, u70_167, u70_170, u70_171, u70_173, u70_176, u70_179, u70_181, u70_184, u70_186, u70_189, u70_191, c1, c2, if_false, s_isMan h, s_isDay, s_isOneOf, pu_some, pu_none, b01_e0, hx, hd, hw, and_self, and_false, not_true, not_false_iff, if_true]
    · simp only [u70_0, u70_1, u70_4, u70_5, u70_7, u70_10, u70_11, u70_12, u70_15, u70_18, u70_19, u70_22, u70_25, u70_27, u70_28, u70_31, u70_34, u70_37, u70_38, u70_39, u70_42, u70_43, u70_45, u70_46, u70_47, u70_48, u70_51, u70_54, u70_55, u70_56, u70_58, u70_59, u70_63, u70_64, u70_65, u70_68, u70_71, u70_72, u70_75, u70_77, u70_79, u70_82, u70_83, u70_86, u70_88, u70_90, u70_91, u70_92, u70_93, u70_94, u70_96, u70_98, u70_99, u70_102, u70_104, u70_105, u70_108, u70_110, u70_111, u70_112, u70_114, u70_117, u70_120, u70_121, u70_123, u70_126, u70_129, u70_130, u70_134, u70_136, u70_139, u70_141, u70_144, u70_145, u70_146, u70_147, u70_150, u70_152, u70_153, u70_154, u70_157, u70_159, u70_162, u70_163, u70_165, u70_167, u70_170, u70_171, u70_173, u70_176, u70_179, u70_181, u70_184, u70_186, u70_189, u70_191, c1, c2, if_false, s_isMan h, s_isDay, pu_some, pu_none, b01_e0, hx, hd, and_self, false_and, and_false, not_true, not_false_iff, if_true]
  · simp only [u70_0, u70_1, u70_4, u70_5, u70_7, u70_10, u70_11, u70_12, u70_15, u70_18, u70_19, u70_22, u70_25, u70_27, u70_28, u70_31, u70_34, u70_37, u70_38, u70_39, u70_42, u70_43, u70_45, u70_46, u70_47, u70_48, u70_51, u70_54, u70_55, u70_56, u70_58, u70_59, u70_63, u70_64, u70_65, u70_68, u70_71, u70_72, u70_75, u70_77, u70_79, u70_82, u70_83, u70_86, u70_88, u70_90, u70_91, u70_92, u70_93, u70_94, u70_96, u70_98, u70_99, u70_102, u70_104, u70_105, u70_108, u70_110, u70_111, u70_112, u70_114, u70_117, u70_120, u70_121, u70_123, u70_126, u70_129, u70_130, u70_134, u70_136, u70_139, u70_141, u70_144, u70_145, u70_146, u70_147, u70_150, u70_152, u70_153, u70_154, u70_157, u70_159, u70_162, u70_163, u70_165, u70_167, u70_170, u70_171, u70_173, u70_176, u70_179, u70_181, u70_184, u70_186, u70_189, u70_191, c1, c2, if_false, s_isMan h, pu_some, pu_none, b01_e0, hx, false_and, and_false, not_false_iff, if_true]
/-- a home by lot -/
def lotV (x : Int32) : Int32 := 1103515245 * x + nI 12345
def portF (inns k : Nat) (s : AMem × Int32) : AMem × Int32 := (up s.1 23 k (usr (lotV s.2) (nI 16) - usr (lotV s.2) (nI 16) / nI inns * nI inns), lotV s.2)
def portE (men inns fleet : Nat) (seed : Int32) (m : AMem) : AMem := runM 44 19 men fleet (if 0 < inns then it men (portF inns) (becomeM m, seed) else (becomeM m, seed)).1
theorem s_port (h : TS men inns fleet m) {seed x : Int32} : T S (f + 6) 72 0 [some (.ref 0), some (.int seed), some (.int x), none, none] [] m Rt = if x = -1 then Rt (some (.int (sailedM 44 (portE men inns fleet seed m)))) (portE men inns fleet seed m) else if nI 0 ≤ x ∧ x < nI inns then Rt (some (.int (portE men inns fleet seed m 49 x.toNatClampNeg))) (portE men inns fleet seed m) else Rt (some (.int (-2))) m := by
  have hb := h.2.2.2.1
  have hi := h.2.2.2.2.1
  have fin : ∀ (m2 : AMem) (a b : Option Value), TT men inns fleet m2 → (x = -1 ∨ (¬ x = -1 ∧ nI 0 ≤ x ∧ x < nI inns)) → T S (f + 6) 72 92 [some (.ref 0), some (.int seed), some (.int x), a, b] [] m2 Rt = if x = -1 then Rt (some (.int (sailedM 44 (runM 44 19 men fleet m2)))) (runM 44 19 men fleet m2) else Rt (some (.int (runM 44 19 men fleet m2 49 x.toNatClampNeg))) (runM 44 19 men fleet m2) := by
    intro m2 a b ht hx
    rcases hx with rfl | ⟨x1, x2⟩
    · simp only [u72_0, u72_1, u72_2, u72_5, u72_6, u72_7, u72_10, u72_13, u72_15, u72_16, u72_17, u72_20, u72_21, u72_24, u72_27, u72_28, u72_29, u72_30, u72_34, u72_35, u72_38, u72_41, u72_44, u72_45, u72_48, u72_51, u72_54, u72_57, u72_58, u72_59, u72_62, u72_63, u72_64, u72_65, u72_68, u72_71, u72_73, u72_74, u72_76, u72_77, u72_78, u72_81, u72_84, u72_85, u72_86, u72_89, u72_92, u72_93, u72_96, u72_99, u72_100, u72_101, u72_104, u72_105, u72_108, u72_111, u72_114, u72_115, u72_118, u72_121, u72_122, u72_123, s_runO ht, pu_some, pu_none, if_true, s_sailed (Or.inr ⟨rfl, rfl⟩)]
    · obtain ⟨k0, hk0, rfl⟩ := P_nI x2 (by omega)
      have hB : inB (nI k0) 8 = true := inB8 (by omega) (by decide)
      simp only [u72_0, u72_1, u72_2, u72_5, u72_6, u72_7, u72_10, u72_13, u72_15, u72_16, u72_17, u72_20, u72_21, u72_24, u72_27, u72_28, u72_29, u72_30, u72_34, u72_35, u72_38, u72_41, u72_44, u72_45, u72_48, u72_51, u72_54, u72_57, u72_58, u72_59, u72_62, u72_63, u72_64, u72_65, u72_68, u72_71, u72_73, u72_74, u72_76, u72_77, u72_78, u72_81, u72_84, u72_85, u72_86, u72_89, u72_92, u72_93, u72_96, u72_99, u72_100, u72_101, u72_104, u72_105, u72_108, u72_111, u72_114, u72_115, u72_118, u72_121, u72_122, u72_123, s_runO ht, pu_some, pu_none, x1, if_false, hB, true_and]
  have mid : (x = -1 ∨ (¬ x = -1 ∧ nI 0 ≤ x ∧ x < nI inns)) → T S (f + 6) 72 32 [some (.ref 0), some (.int seed), some (.int x), some (.int seed), some (.int (nI 0))] [] (becomeM m) Rt = if x = -1 then Rt (some (.int (sailedM 44 (portE men inns fleet seed m)))) (portE men inns fleet seed m) else Rt (some (.int (portE men inns fleet seed m 49 x.toNatClampNeg))) (portE men inns fleet seed m) := by
    intro hx
    unfold portE
    by_cases h0 : 0 < inns
    · have hz : ¬ nI inns = 0 := by
        have z : ¬ nI inns = nI 0 := by
          rw [nI_eq8 (by omega) (by omega)]
          omega
        exact z
      have hz2 : ¬ inns ≤ 0 := by omega
      rw [if_pos h0]
      have e := it_run (fun k (s : AMem × Int32) => T S (f + 6) 72 32 [some (.ref 0), some (.int seed), some (.int x), some (.int s.2), some (.int (nI k))] [] s.1 Rt) (portF inns) (fun _ s => TT men inns fleet s.1) men (fun k _ s hs => TT_up hs (by omega)) (fun k hk s hs => by
        have hle : ¬ men ≤ k := by omega
        have hB : inB (nI k) 8 = true := inB8 (by omega) (by decide)
        refine u72_32.trans ?_
        simp (disch := omega) only [u72_0, u72_1, u72_2, u72_5, u72_6, u72_7, u72_10, u72_13, u72_15, u72_16, u72_17, u72_20, u72_21, u72_24, u72_27, u72_28, u72_29, u72_30, u72_34, u72_35, u72_38, u72_41, u72_44, u72_45, u72_48, u72_51, u72_54, u72_57, u72_58, u72_59, u72_62, u72_63, u72_64, u72_65, u72_68, u72_71, u72_73, u72_74, u72_76, u72_77, u72_78, u72_81, u72_84, u72_85, u72_86, u72_89, u72_93, u72_96, u72_99, u72_100, u72_101, u72_104, u72_105, u72_108, u72_111, u72_114, u72_115, u72_118, u72_121, u72_122, u72_123, hs.1.1, hs.1.2.1, nI_le8, hle, hz2, if_false, hz, not_false_iff, true_and, hB, nI_cl8, nI_add]
        rfl) (becomeM m, seed) (TT_bec h)
      have hE : TT men inns fleet (it men (portF inns) (becomeM m, seed)).1 := it_I (portF inns) (fun _ s => TT men inns fleet s.1) men (fun k _ s hs => TT_up hs (by omega)) (becomeM m, seed) (TT_bec h) _ (Nat.le_refl _)
      refine e.trans (u72_32.trans ?_)
      simp (disch := omega) only [u72_0, u72_1, u72_2, u72_5, u72_6, u72_7, u72_10, u72_13, u72_15, u72_16, u72_17, u72_20, u72_21, u72_24, u72_27, u72_28, u72_29, u72_30, u72_34, u72_35, u72_38, u72_41, u72_44, u72_45, u72_48, u72_51, u72_54, u72_57, u72_58, u72_59, u72_62, u72_63, u72_64, u72_65, u72_68, u72_71, u72_73, u72_74, u72_76, u72_77, u72_78, u72_81, u72_84, u72_85, u72_86, u72_89, u72_93, u72_96, u72_99, u72_100, u72_101, u72_104, u72_105, u72_108, u72_111, u72_114, u72_115, u72_118, u72_121, u72_122, u72_123, hE.1.1, nI_le8, Nat.le_refl, if_true]
      exact fin _ _ _ hE hx
    · rw [if_neg h0]
      have hE := TT_bec h
      have hz : inns = 0 := by omega
      refine u72_32.trans ?_
      by_cases hm : men ≤ 0
      · simp (disch := omega) only [u72_0, u72_1, u72_2, u72_5, u72_6, u72_7, u72_10, u72_13, u72_15, u72_16, u72_17, u72_20, u72_21, u72_24, u72_27, u72_28, u72_29, u72_30, u72_34, u72_35, u72_38, u72_41, u72_44, u72_45, u72_48, u72_51, u72_54, u72_57, u72_58, u72_59, u72_62, u72_63, u72_64, u72_65, u72_68, u72_71, u72_73, u72_74, u72_76, u72_77, u72_78, u72_81, u72_84, u72_85, u72_86, u72_89, u72_93, u72_96, u72_99, u72_100, u72_101, u72_104, u72_105, u72_108, u72_111, u72_114, u72_115, u72_118, u72_121, u72_122, u72_123, hE.1.1, nI_le8, hm, if_true]
        exact fin _ _ _ hE hx
      · simp (disch := omega) only [u72_0, u72_1, u72_2, u72_5, u72_6, u72_7, u72_10, u72_13, u72_15, u72_16, u72_17, u72_20, u72_21, u72_24, u72_27, u72_28, u72_29, u72_30, u72_34, u72_35, u72_38, u72_41, u72_44, u72_45, u72_48, u72_51, u72_54, u72_57, u72_58, u72_59, u72_62, u72_63, u72_64, u72_65, u72_68, u72_71, u72_73, u72_74, u72_76, u72_77, u72_78, u72_81, u72_84, u72_85, u72_86, u72_89, u72_93, u72_96, u72_99, u72_100, u72_101, u72_104, u72_105, u72_108, u72_111, u72_114, u72_115, u72_118, u72_121, u72_122, u72_123, hE.1.1, hE.1.2.1, nI_le8, hm, hz, Nat.le_refl, if_false, if_true]
        exact fin _ _ _ hE hx
  by_cases x1 : x = -1
  · have e := mid (Or.inl x1)
    rw [if_pos x1] at e ⊢
    refine Eq.trans ?_ e
    simp only [u72_0, u72_1, u72_2, u72_5, u72_6, u72_7, u72_10, u72_13, u72_15, u72_16, u72_17, u72_20, u72_21, u72_24, u72_27, u72_28, u72_29, u72_30, u72_34, u72_35, u72_38, u72_41, u72_44, u72_45, u72_48, u72_51, u72_54, u72_57, u72_58, u72_59, u72_62, u72_63, u72_64, u72_65, u72_68, u72_71, u72_73, u72_74, u72_76, u72_77, u72_78, u72_81, u72_84, u72_85, u72_86, u72_89, u72_93, u72_96, u72_99, u72_100, u72_101, u72_104, u72_105, u72_108, u72_111, u72_114, u72_115, u72_118, u72_121, u72_122, u72_123, x1, if_true, s_become, pu_some, pu_none]
  · rw [if_neg x1]
    by_cases x2 : nI 0 ≤ x ∧ x < nI inns
    · have e := mid (Or.inr ⟨x1, x2⟩)
      rw [if_neg x1] at e
      rw [if_pos x2]
      refine Eq.trans ?_ e
      simp only [u72_0, u72_1, u72_2, u72_5, u72_6, u72_7, u72_10, u72_13, u72_15, u72_16, u72_17, u72_20, u72_21, u72_24, u72_27, u72_28, u72_29, u72_30, u72_34, u72_35, u72_38, u72_41, u72_44, u72_45, u72_48, u72_51, u72_54, u72_57, u72_58, u72_59, u72_62, u72_63, u72_64, u72_65, u72_68, u72_71, u72_73, u72_74, u72_76, u72_77, u72_78, u72_81, u72_84, u72_85, u72_86, u72_89, u72_93, u72_96, u72_99, u72_100, u72_101, u72_104, u72_105, u72_108, u72_111, u72_114, u72_115, u72_118, u72_121, u72_122, u72_123, x1, if_false, s_isInn h, pu_some, pu_none, b01_e0, x2, and_self, not_true, s_become]
    · rw [if_neg x2]
      simp only [u72_0, u72_1, u72_2, u72_5, u72_6, u72_7, u72_10, u72_13, u72_15, u72_16, u72_17, u72_20, u72_21, u72_24, u72_27, u72_28, u72_29, u72_30, u72_34, u72_35, u72_38, u72_41, u72_44, u72_45, u72_48, u72_51, u72_54, u72_57, u72_58, u72_59, u72_62, u72_63, u72_64, u72_65, u72_68, u72_71, u72_73, u72_74, u72_76, u72_77, u72_78, u72_81, u72_84, u72_85, u72_86, u72_89, u72_93, u72_96, u72_99, u72_100, u72_101, u72_104, u72_105, u72_108, u72_111, u72_114, u72_115, u72_118, u72_121, u72_122, u72_123, x1, if_false, s_isInn h, pu_some, pu_none, b01_e0, x2, not_false_iff, if_true]
/-- a sheet read as it was seen -/
def readR (s : Nat) : Nat → Nat → Nat → AMem → Nat × AMem
  | 0, _, _, m => (0, m)
  | r + 1, i, c, m =>
    if nI (i + 2) < m (65 + s) 2 ∧ ((nI 0 ≤ m (69 + s) i ∧ m (69 + s) i < nI 30) ∧ (¬ m (69 + s) (i + 1) < nI 0 ∧ ¬ nI 8 ≤ m (69 + s) (i + 1)) ∧ (¬ m (69 + s) (i + 2) < nI 0 ∧ m (69 + s) (i + 2) ≤ nI 999)) ∧ c < 8 then
      ((readR s r (i + 3) (c + 1) (putS c (m (69 + s) i) (m (69 + s) (i + 1)) (m (69 + s) (i + 2)) m)).1 + 1, (readR s r (i + 3) (c + 1) (putS c (m (69 + s) i) (m (69 + s) (i + 1)) (m (69 + s) (i + 2)) m)).2)
    else (0, m)
theorem putS_c {c : Nat} {x y z : Int32} : putS c x y z m 60 3 = nI (c + 1) := by
  unfold putS
  rw [up_ap, if_pos ⟨rfl, rfl⟩]
theorem s_readB {x : Int32} (h : ¬ (nI 0 ≤ x ∧ x < nI 4)) : T S (f + 4) 63 0 [some (.ref 0), some (.int x), none, none, none] [] m Rt = Rt (some (.int (-2))) m := by
  simp only [u63_0, u63_1, u63_2, u63_5, u63_8, u63_10, s_isOneOf, pu_some, pu_none, b01_e0, h, not_false_iff, if_true]
theorem s_readN0 (h : m 65 1 = -1) : T S (f + 4) 63 0 [some (.ref 0), some (.int (nI 0)), none, none, none] [] m Rt = Rt (some (.int (-10 - nI 1))) (up m 0 11 (nI 1)) := by
  simp only [u63_0, u63_1, u63_2, u63_5, u63_8, u63_10, u63_11, u63_12, u63_15, u63_16, u63_16v1, u63_16v2, u63_16v3, u63_17, u63_18, u63_19, u63_19v1, u63_19v2, u63_19v3, u63_22, u63_23, u63_26, u63_27, u63_28, u63_31, u63_32, u63_33, u63_34, u63_35, u63_37, u63_39, u63_40, u63_41, u63_42, u63_42v1, u63_42v2, u63_42v3, u63_45, u63_48, u63_50, u63_51, u63_52, u63_54, u63_57, u63_58, u63_61, u63_62, u63_62v1, u63_62v2, u63_62v3, u63_65, u63_67, u63_67v1, u63_67v2, u63_67v3, u63_68, u63_69, u63_69v1, u63_69v2, u63_69v3, u63_72, u63_74, u63_75, u63_76, u63_76v1, u63_76v2, u63_76v3, u63_77, u63_78, u63_78v1, u63_78v2, u63_78v3, u63_81, u63_83, u63_84, u63_85, u63_85v1, u63_85v2, u63_85v3, u63_86, u63_89, u63_92, u63_95, u63_98, u63_101, u63_104, u63_105, s_isOneOf, pu_some, pu_none, b01_e0, show (nI 0 ≤ nI 0 ∧ nI 0 < nI 4) = True by decide, not_true, if_false, h, if_true, s_found]
set_option maxHeartbeats 1000000 in
theorem s_read0 (h : ¬ m 65 1 = -1) {c : Nat} (hm : m 60 3 = nI c) (hc : c ≤ 8) : T S (f + 4) 63 0 [some (.ref 0), some (.int (nI 0)), none, none, none] [] m Rt = Rt (some (.int (nI (readR 0 20 0 c m).1))) (readR 0 20 0 c m).2 := by
  have key : ∀ (r i c k : Nat) (m : AMem), i + 3 * r = 60 → m 60 3 = nI c → c ≤ 8 → T S (f + 4) 63 37 [some (.ref 0), some (.int (nI 0)), some (.ref 65), some (.int (nI k)), some (.int (nI i))] [] m Rt = Rt (some (.int (nI (k + (readR 0 r i c m).1)))) (readR 0 r i c m).2 := by
    intro r
    induction r with
    | zero =>
      intro i c k m hi hm hc
      have hle : 60 ≤ i + 2 := by omega
      refine u63_37.trans ?_
      by_cases q : m 65 2 ≤ nI (i + 2)
      · simp (disch := omega) only [u63_0, u63_1, u63_2, u63_5, u63_8, u63_10, u63_11, u63_12, u63_15, u63_16, u63_16v1, u63_16v2, u63_16v3, u63_17, u63_18, u63_19, u63_19v1, u63_19v2, u63_19v3, u63_22, u63_23, u63_26, u63_27, u63_28, u63_31, u63_32, u63_33, u63_34, u63_35, u63_39, u63_40, u63_41, u63_42, u63_42v1, u63_42v2, u63_42v3, u63_45, u63_48, u63_50, u63_51, u63_52, u63_54, u63_57, u63_58, u63_61, u63_62, u63_62v1, u63_62v2, u63_62v3, u63_65, u63_67, u63_67v1, u63_67v2, u63_67v3, u63_68, u63_69, u63_69v1, u63_69v2, u63_69v3, u63_72, u63_74, u63_75, u63_76, u63_76v1, u63_76v2, u63_76v3, u63_77, u63_78, u63_78v1, u63_78v2, u63_78v3, u63_81, u63_83, u63_84, u63_85, u63_85v1, u63_85v2, u63_85v3, u63_86, u63_89, u63_92, u63_95, u63_98, u63_101, u63_104, u63_105, nI_add, q, if_true, readR, Nat.add_zero]
      · simp (disch := omega) only [u63_0, u63_1, u63_2, u63_5, u63_8, u63_10, u63_11, u63_12, u63_15, u63_16, u63_16v1, u63_16v2, u63_16v3, u63_17, u63_18, u63_19, u63_19v1, u63_19v2, u63_19v3, u63_22, u63_23, u63_26, u63_27, u63_28, u63_31, u63_32, u63_33, u63_34, u63_35, u63_39, u63_40, u63_41, u63_42, u63_42v1, u63_42v2, u63_42v3, u63_45, u63_48, u63_50, u63_51, u63_52, u63_54, u63_57, u63_58, u63_61, u63_62, u63_62v1, u63_62v2, u63_62v3, u63_65, u63_67, u63_67v1, u63_67v2, u63_67v3, u63_68, u63_69, u63_69v1, u63_69v2, u63_69v3, u63_72, u63_74, u63_75, u63_76, u63_76v1, u63_76v2, u63_76v3, u63_77, u63_78, u63_78v1, u63_78v2, u63_78v3, u63_81, u63_83, u63_84, u63_85, u63_85v1, u63_85v2, u63_85v3, u63_86, u63_89, u63_92, u63_95, u63_98, u63_101, u63_104, u63_105, nI_add, q, if_false, nI_le8, hle, if_true, readR, Nat.add_zero]
    | succ r ih =>
      intro i c k m hi hm hc
      have hle : ¬ 60 ≤ i + 2 := by omega
      have hB0 : inB (nI i) 60 = true := inB8 (by omega) (by decide)
      have hB1 : inB (nI (i + 1)) 60 = true := inB8 (by omega) (by decide)
      have hB2 : inB (nI (i + 2)) 60 = true := inB8 (by omega) (by decide)
      refine u63_37.trans ?_
      by_cases q : nI (i + 2) < m 65 2
      · by_cases p : (nI 0 ≤ m 69 i ∧ m 69 i < nI 30) ∧ (¬ m 69 (i + 1) < nI 0 ∧ ¬ nI 8 ≤ m 69 (i + 1)) ∧ (¬ m 69 (i + 2) < nI 0 ∧ m 69 (i + 2) ≤ nI 999)
        · by_cases hc8 : c < 8
          · have hrd : readR 0 (r + 1) i c m = ((readR 0 r (i + 3) (c + 1) (putS c (m 69 i) (m 69 (i + 1)) (m 69 (i + 2)) m)).1 + 1, (readR 0 r (i + 3) (c + 1) (putS c (m 69 i) (m 69 (i + 1)) (m 69 (i + 2)) m)).2) := by
              conv => lhs; unfold readR
              rw [if_pos ⟨q, p, hc8⟩]
            have e := ih (i + 3) (c + 1) (k + 1) (putS c (m 69 i) (m 69 (i + 1)) (m 69 (i + 2)) m) (by omega) putS_c (by omega)
            have hn : ¬ nI (c + 1) < nI 0 := fun z => nI_pos (n := c + 1) (by omega) z
            have hge : nI 0 ≤ nI (c + 1) := Int32.not_lt.mp hn
            simp (disch := omega) only [u63_0, u63_1, u63_2, u63_5, u63_8, u63_10, u63_11, u63_12, u63_15, u63_16, u63_16v1, u63_16v2, u63_16v3, u63_17, u63_18, u63_19, u63_19v1, u63_19v2, u63_19v3, u63_22, u63_23, u63_26, u63_27, u63_28, u63_31, u63_32, u63_33, u63_34, u63_35, u63_39, u63_40, u63_41, u63_42, u63_42v1, u63_42v2, u63_42v3, u63_45, u63_48, u63_50, u63_51, u63_52, u63_54, u63_57, u63_58, u63_61, u63_62, u63_62v1, u63_62v2, u63_62v3, u63_65, u63_67, u63_67v1, u63_67v2, u63_67v3, u63_68, u63_69, u63_69v1, u63_69v2, u63_69v3, u63_72, u63_74, u63_75, u63_76, u63_76v1, u63_76v2, u63_76v3, u63_77, u63_78, u63_78v1, u63_78v2, u63_78v3, u63_81, u63_83, u63_84, u63_85, u63_85v1, u63_85v2, u63_85v3, u63_86, u63_89, u63_92, u63_95, u63_98, u63_101, u63_104, u63_105, nI_add, le_n (m 65 2) (nI (i + 2)), q, not_true, if_false, nI_le8, hle, hB0, hB1, hB2, nI_cl8, true_and, s_moreS p hm hc8, pu_some, pu_none, hge, if_true, Nat.zero_le]
            rw [e, hrd, show k + 1 + (readR 0 r (i + 3) (c + 1) (putS c (m 69 i) (m 69 (i + 1)) (m 69 (i + 2)) m)).1 = k + ((readR 0 r (i + 3) (c + 1) (putS c (m 69 i) (m 69 (i + 1)) (m 69 (i + 2)) m)).1 + 1) by omega]
          · have hrd : readR 0 (r + 1) i c m = (0, m) := by
              unfold readR
              rw [if_neg (fun z => hc8 z.2.2)]
            have h8 : m 60 3 = nI 8 := by rw [hm, show c = 8 by omega]
            rw [hrd]
            simp (disch := omega) only [u63_0, u63_1, u63_2, u63_5, u63_8, u63_10, u63_11, u63_12, u63_15, u63_16, u63_16v1, u63_16v2, u63_16v3, u63_17, u63_18, u63_19, u63_19v1, u63_19v2, u63_19v3, u63_22, u63_23, u63_26, u63_27, u63_28, u63_31, u63_32, u63_33, u63_34, u63_35, u63_39, u63_40, u63_41, u63_42, u63_42v1, u63_42v2, u63_42v3, u63_45, u63_48, u63_50, u63_51, u63_52, u63_54, u63_57, u63_58, u63_61, u63_62, u63_62v1, u63_62v2, u63_62v3, u63_65, u63_67, u63_67v1, u63_67v2, u63_67v3, u63_68, u63_69, u63_69v1, u63_69v2, u63_69v3, u63_72, u63_74, u63_75, u63_76, u63_76v1, u63_76v2, u63_76v3, u63_77, u63_78, u63_78v1, u63_78v2, u63_78v3, u63_81, u63_83, u63_84, u63_85, u63_85v1, u63_85v2, u63_85v3, u63_86, u63_89, u63_92, u63_95, u63_98, u63_101, u63_104, u63_105, nI_add, le_n (m 65 2) (nI (i + 2)), q, not_true, if_false, nI_le8, hle, hB0, hB1, hB2, nI_cl8, true_and, s_moreF p h8, pu_some, pu_none, show ¬ nI 0 ≤ -4 by decide, Nat.add_zero]
        · have hrd : readR 0 (r + 1) i c m = (0, m) := by
            unfold readR
            rw [if_neg (fun z => p z.2.1)]
          rw [hrd]
          simp (disch := omega) only [u63_0, u63_1, u63_2, u63_5, u63_8, u63_10, u63_11, u63_12, u63_15, u63_16, u63_16v1, u63_16v2, u63_16v3, u63_17, u63_18, u63_19, u63_19v1, u63_19v2, u63_19v3, u63_22, u63_23, u63_26, u63_27, u63_28, u63_31, u63_32, u63_33, u63_34, u63_35, u63_39, u63_40, u63_41, u63_42, u63_42v1, u63_42v2, u63_42v3, u63_45, u63_48, u63_50, u63_51, u63_52, u63_54, u63_57, u63_58, u63_61, u63_62, u63_62v1, u63_62v2, u63_62v3, u63_65, u63_67, u63_67v1, u63_67v2, u63_67v3, u63_68, u63_69, u63_69v1, u63_69v2, u63_69v3, u63_72, u63_74, u63_75, u63_76, u63_76v1, u63_76v2, u63_76v3, u63_77, u63_78, u63_78v1, u63_78v2, u63_78v3, u63_81, u63_83, u63_84, u63_85, u63_85v1, u63_85v2, u63_85v3, u63_86, u63_89, u63_92, u63_95, u63_98, u63_101, u63_104, u63_105, nI_add, le_n (m 65 2) (nI (i + 2)), q, not_true, if_false, nI_le8, hle, hB0, hB1, hB2, nI_cl8, true_and, s_moreB p, pu_some, pu_none, show ¬ nI 0 ≤ -2 by decide, Nat.add_zero]
      · have hrd : readR 0 (r + 1) i c m = (0, m) := by
          unfold readR
          rw [if_neg (fun z => q z.1)]
        rw [hrd]
        simp (disch := omega) only [u63_0, u63_1, u63_2, u63_5, u63_8, u63_10, u63_11, u63_12, u63_15, u63_16, u63_16v1, u63_16v2, u63_16v3, u63_17, u63_18, u63_19, u63_19v1, u63_19v2, u63_19v3, u63_22, u63_23, u63_26, u63_27, u63_28, u63_31, u63_32, u63_33, u63_34, u63_35, u63_39, u63_40, u63_41, u63_42, u63_42v1, u63_42v2, u63_42v3, u63_45, u63_48, u63_50, u63_51, u63_52, u63_54, u63_57, u63_58, u63_61, u63_62, u63_62v1, u63_62v2, u63_62v3, u63_65, u63_67, u63_67v1, u63_67v2, u63_67v3, u63_68, u63_69, u63_69v1, u63_69v2, u63_69v3, u63_72, u63_74, u63_75, u63_76, u63_76v1, u63_76v2, u63_76v3, u63_77, u63_78, u63_78v1, u63_78v2, u63_78v3, u63_81, u63_83, u63_84, u63_85, u63_85v1, u63_85v2, u63_85v3, u63_86, u63_89, u63_92, u63_95, u63_98, u63_101, u63_104, u63_105, nI_add, le_n (m 65 2) (nI (i + 2)), q, not_false_iff, if_true, Nat.add_zero]
  have e := key 20 0 c 0 m rfl hm hc
  rw [Nat.zero_add] at e
  refine Eq.trans ?_ e
  simp only [u63_0, u63_1, u63_2, u63_5, u63_8, u63_10, u63_11, u63_12, u63_15, u63_16, u63_16v1, u63_16v2, u63_16v3, u63_17, u63_18, u63_19, u63_19v1, u63_19v2, u63_19v3, u63_22, u63_23, u63_26, u63_27, u63_28, u63_31, u63_32, u63_33, u63_34, u63_35, u63_39, u63_40, u63_41, u63_42, u63_42v1, u63_42v2, u63_42v3, u63_45, u63_48, u63_50, u63_51, u63_52, u63_54, u63_57, u63_58, u63_61, u63_62, u63_62v1, u63_62v2, u63_62v3, u63_65, u63_67, u63_67v1, u63_67v2, u63_67v3, u63_68, u63_69, u63_69v1, u63_69v2, u63_69v3, u63_72, u63_74, u63_75, u63_76, u63_76v1, u63_76v2, u63_76v3, u63_77, u63_78, u63_78v1, u63_78v2, u63_78v3, u63_81, u63_83, u63_84, u63_85, u63_85v1, u63_85v2, u63_85v3, u63_86, u63_89, u63_92, u63_95, u63_98, u63_101, u63_104, u63_105, s_isOneOf, pu_some, pu_none, b01_e0, show (nI 0 ≤ nI 0 ∧ nI 0 < nI 4) = True by decide, not_true, if_false, h]
theorem s_readN1 (h : m 66 1 = -1) : T S (f + 4) 63 0 [some (.ref 0), some (.int (nI 1)), none, none, none] [] m Rt = Rt (some (.int (-10 - nI 1))) (up m 0 11 (nI 1)) := by
  simp only [u63_0, u63_1, u63_2, u63_5, u63_8, u63_10, u63_11, u63_12, u63_15, u63_16, u63_16v1, u63_16v2, u63_16v3, u63_17, u63_18, u63_19, u63_19v1, u63_19v2, u63_19v3, u63_22, u63_23, u63_26, u63_27, u63_28, u63_31, u63_32, u63_33, u63_34, u63_35, u63_37, u63_39, u63_40, u63_41, u63_42, u63_42v1, u63_42v2, u63_42v3, u63_45, u63_48, u63_50, u63_51, u63_52, u63_54, u63_57, u63_58, u63_61, u63_62, u63_62v1, u63_62v2, u63_62v3, u63_65, u63_67, u63_67v1, u63_67v2, u63_67v3, u63_68, u63_69, u63_69v1, u63_69v2, u63_69v3, u63_72, u63_74, u63_75, u63_76, u63_76v1, u63_76v2, u63_76v3, u63_77, u63_78, u63_78v1, u63_78v2, u63_78v3, u63_81, u63_83, u63_84, u63_85, u63_85v1, u63_85v2, u63_85v3, u63_86, u63_89, u63_92, u63_95, u63_98, u63_101, u63_104, u63_105, s_isOneOf, pu_some, pu_none, b01_e0, show (nI 0 ≤ nI 1 ∧ nI 1 < nI 4) = True by decide, not_true, if_false, h, if_true, s_found]
set_option maxHeartbeats 1000000 in
theorem s_read1 (h : ¬ m 66 1 = -1) {c : Nat} (hm : m 60 3 = nI c) (hc : c ≤ 8) : T S (f + 4) 63 0 [some (.ref 0), some (.int (nI 1)), none, none, none] [] m Rt = Rt (some (.int (nI (readR 1 20 0 c m).1))) (readR 1 20 0 c m).2 := by
  have key : ∀ (r i c k : Nat) (m : AMem), i + 3 * r = 60 → m 60 3 = nI c → c ≤ 8 → T S (f + 4) 63 37 [some (.ref 0), some (.int (nI 1)), some (.ref 66), some (.int (nI k)), some (.int (nI i))] [] m Rt = Rt (some (.int (nI (k + (readR 1 r i c m).1)))) (readR 1 r i c m).2 := by
    intro r
    induction r with
    | zero =>
      intro i c k m hi hm hc
      have hle : 60 ≤ i + 2 := by omega
      refine u63_37.trans ?_
      by_cases q : m 66 2 ≤ nI (i + 2)
      · simp (disch := omega) only [u63_0, u63_1, u63_2, u63_5, u63_8, u63_10, u63_11, u63_12, u63_15, u63_16, u63_16v1, u63_16v2, u63_16v3, u63_17, u63_18, u63_19, u63_19v1, u63_19v2, u63_19v3, u63_22, u63_23, u63_26, u63_27, u63_28, u63_31, u63_32, u63_33, u63_34, u63_35, u63_39, u63_40, u63_41, u63_42, u63_42v1, u63_42v2, u63_42v3, u63_45, u63_48, u63_50, u63_51, u63_52, u63_54, u63_57, u63_58, u63_61, u63_62, u63_62v1, u63_62v2, u63_62v3, u63_65, u63_67, u63_67v1, u63_67v2, u63_67v3, u63_68, u63_69, u63_69v1, u63_69v2, u63_69v3, u63_72, u63_74, u63_75, u63_76, u63_76v1, u63_76v2, u63_76v3, u63_77, u63_78, u63_78v1, u63_78v2, u63_78v3, u63_81, u63_83, u63_84, u63_85, u63_85v1, u63_85v2, u63_85v3, u63_86, u63_89, u63_92, u63_95, u63_98, u63_101, u63_104, u63_105, nI_add, q, if_true, readR, Nat.add_zero]
      · simp (disch := omega) only [u63_0, u63_1, u63_2, u63_5, u63_8, u63_10, u63_11, u63_12, u63_15, u63_16, u63_16v1, u63_16v2, u63_16v3, u63_17, u63_18, u63_19, u63_19v1, u63_19v2, u63_19v3, u63_22, u63_23, u63_26, u63_27, u63_28, u63_31, u63_32, u63_33, u63_34, u63_35, u63_39, u63_40, u63_41, u63_42, u63_42v1, u63_42v2, u63_42v3, u63_45, u63_48, u63_50, u63_51, u63_52, u63_54, u63_57, u63_58, u63_61, u63_62, u63_62v1, u63_62v2, u63_62v3, u63_65, u63_67, u63_67v1, u63_67v2, u63_67v3, u63_68, u63_69, u63_69v1, u63_69v2, u63_69v3, u63_72, u63_74, u63_75, u63_76, u63_76v1, u63_76v2, u63_76v3, u63_77, u63_78, u63_78v1, u63_78v2, u63_78v3, u63_81, u63_83, u63_84, u63_85, u63_85v1, u63_85v2, u63_85v3, u63_86, u63_89, u63_92, u63_95, u63_98, u63_101, u63_104, u63_105, nI_add, q, if_false, nI_le8, hle, if_true, readR, Nat.add_zero]
    | succ r ih =>
      intro i c k m hi hm hc
      have hle : ¬ 60 ≤ i + 2 := by omega
      have hB0 : inB (nI i) 60 = true := inB8 (by omega) (by decide)
      have hB1 : inB (nI (i + 1)) 60 = true := inB8 (by omega) (by decide)
      have hB2 : inB (nI (i + 2)) 60 = true := inB8 (by omega) (by decide)
      refine u63_37.trans ?_
      by_cases q : nI (i + 2) < m 66 2
      · by_cases p : (nI 0 ≤ m 70 i ∧ m 70 i < nI 30) ∧ (¬ m 70 (i + 1) < nI 0 ∧ ¬ nI 8 ≤ m 70 (i + 1)) ∧ (¬ m 70 (i + 2) < nI 0 ∧ m 70 (i + 2) ≤ nI 999)
        · by_cases hc8 : c < 8
          · have hrd : readR 1 (r + 1) i c m = ((readR 1 r (i + 3) (c + 1) (putS c (m 70 i) (m 70 (i + 1)) (m 70 (i + 2)) m)).1 + 1, (readR 1 r (i + 3) (c + 1) (putS c (m 70 i) (m 70 (i + 1)) (m 70 (i + 2)) m)).2) := by
              conv => lhs; unfold readR
              rw [if_pos ⟨q, p, hc8⟩]
            have e := ih (i + 3) (c + 1) (k + 1) (putS c (m 70 i) (m 70 (i + 1)) (m 70 (i + 2)) m) (by omega) putS_c (by omega)
            have hn : ¬ nI (c + 1) < nI 0 := fun z => nI_pos (n := c + 1) (by omega) z
            have hge : nI 0 ≤ nI (c + 1) := Int32.not_lt.mp hn
            simp (disch := omega) only [u63_0, u63_1, u63_2, u63_5, u63_8, u63_10, u63_11, u63_12, u63_15, u63_16, u63_16v1, u63_16v2, u63_16v3, u63_17, u63_18, u63_19, u63_19v1, u63_19v2, u63_19v3, u63_22, u63_23, u63_26, u63_27, u63_28, u63_31, u63_32, u63_33, u63_34, u63_35, u63_39, u63_40, u63_41, u63_42, u63_42v1, u63_42v2, u63_42v3, u63_45, u63_48, u63_50, u63_51, u63_52, u63_54, u63_57, u63_58, u63_61, u63_62, u63_62v1, u63_62v2, u63_62v3, u63_65, u63_67, u63_67v1, u63_67v2, u63_67v3, u63_68, u63_69, u63_69v1, u63_69v2, u63_69v3, u63_72, u63_74, u63_75, u63_76, u63_76v1, u63_76v2, u63_76v3, u63_77, u63_78, u63_78v1, u63_78v2, u63_78v3, u63_81, u63_83, u63_84, u63_85, u63_85v1, u63_85v2, u63_85v3, u63_86, u63_89, u63_92, u63_95, u63_98, u63_101, u63_104, u63_105, nI_add, le_n (m 66 2) (nI (i + 2)), q, not_true, if_false, nI_le8, hle, hB0, hB1, hB2, nI_cl8, true_and, s_moreS p hm hc8, pu_some, pu_none, hge, if_true, Nat.zero_le]
            rw [e, hrd, show k + 1 + (readR 1 r (i + 3) (c + 1) (putS c (m 70 i) (m 70 (i + 1)) (m 70 (i + 2)) m)).1 = k + ((readR 1 r (i + 3) (c + 1) (putS c (m 70 i) (m 70 (i + 1)) (m 70 (i + 2)) m)).1 + 1) by omega]
          · have hrd : readR 1 (r + 1) i c m = (0, m) := by
              unfold readR
              rw [if_neg (fun z => hc8 z.2.2)]
            have h8 : m 60 3 = nI 8 := by rw [hm, show c = 8 by omega]
            rw [hrd]
            simp (disch := omega) only [u63_0, u63_1, u63_2, u63_5, u63_8, u63_10, u63_11, u63_12, u63_15, u63_16, u63_16v1, u63_16v2, u63_16v3, u63_17, u63_18, u63_19, u63_19v1, u63_19v2, u63_19v3, u63_22, u63_23, u63_26, u63_27, u63_28, u63_31, u63_32, u63_33, u63_34, u63_35, u63_39, u63_40, u63_41, u63_42, u63_42v1, u63_42v2, u63_42v3, u63_45, u63_48, u63_50, u63_51, u63_52, u63_54, u63_57, u63_58, u63_61, u63_62, u63_62v1, u63_62v2, u63_62v3, u63_65, u63_67, u63_67v1, u63_67v2, u63_67v3, u63_68, u63_69, u63_69v1, u63_69v2, u63_69v3, u63_72, u63_74, u63_75, u63_76, u63_76v1, u63_76v2, u63_76v3, u63_77, u63_78, u63_78v1, u63_78v2, u63_78v3, u63_81, u63_83, u63_84, u63_85, u63_85v1, u63_85v2, u63_85v3, u63_86, u63_89, u63_92, u63_95, u63_98, u63_101, u63_104, u63_105, nI_add, le_n (m 66 2) (nI (i + 2)), q, not_true, if_false, nI_le8, hle, hB0, hB1, hB2, nI_cl8, true_and, s_moreF p h8, pu_some, pu_none, show ¬ nI 0 ≤ -4 by decide, Nat.add_zero]
        · have hrd : readR 1 (r + 1) i c m = (0, m) := by
            unfold readR
            rw [if_neg (fun z => p z.2.1)]
          rw [hrd]
          simp (disch := omega) only [u63_0, u63_1, u63_2, u63_5, u63_8, u63_10, u63_11, u63_12, u63_15, u63_16, u63_16v1, u63_16v2, u63_16v3, u63_17, u63_18, u63_19, u63_19v1, u63_19v2, u63_19v3, u63_22, u63_23, u63_26, u63_27, u63_28, u63_31, u63_32, u63_33, u63_34, u63_35, u63_39, u63_40, u63_41, u63_42, u63_42v1, u63_42v2, u63_42v3, u63_45, u63_48, u63_50, u63_51, u63_52, u63_54, u63_57, u63_58, u63_61, u63_62, u63_62v1, u63_62v2, u63_62v3, u63_65, u63_67, u63_67v1, u63_67v2, u63_67v3, u63_68, u63_69, u63_69v1, u63_69v2, u63_69v3, u63_72, u63_74, u63_75, u63_76, u63_76v1, u63_76v2, u63_76v3, u63_77, u63_78, u63_78v1, u63_78v2, u63_78v3, u63_81, u63_83, u63_84, u63_85, u63_85v1, u63_85v2, u63_85v3, u63_86, u63_89, u63_92, u63_95, u63_98, u63_101, u63_104, u63_105, nI_add, le_n (m 66 2) (nI (i + 2)), q, not_true, if_false, nI_le8, hle, hB0, hB1, hB2, nI_cl8, true_and, s_moreB p, pu_some, pu_none, show ¬ nI 0 ≤ -2 by decide, Nat.add_zero]
      · have hrd : readR 1 (r + 1) i c m = (0, m) := by
          unfold readR
          rw [if_neg (fun z => q z.1)]
        rw [hrd]
        simp (disch := omega) only [u63_0, u63_1, u63_2, u63_5, u63_8, u63_10, u63_11, u63_12, u63_15, u63_16, u63_16v1, u63_16v2, u63_16v3, u63_17, u63_18, u63_19, u63_19v1, u63_19v2, u63_19v3, u63_22, u63_23, u63_26, u63_27, u63_28, u63_31, u63_32, u63_33, u63_34, u63_35, u63_39, u63_40, u63_41, u63_42, u63_42v1, u63_42v2, u63_42v3, u63_45, u63_48, u63_50, u63_51, u63_52, u63_54, u63_57, u63_58, u63_61, u63_62, u63_62v1, u63_62v2, u63_62v3, u63_65, u63_67, u63_67v1, u63_67v2, u63_67v3, u63_68, u63_69, u63_69v1, u63_69v2, u63_69v3, u63_72, u63_74, u63_75, u63_76, u63_76v1, u63_76v2, u63_76v3, u63_77, u63_78, u63_78v1, u63_78v2, u63_78v3, u63_81, u63_83, u63_84, u63_85, u63_85v1, u63_85v2, u63_85v3, u63_86, u63_89, u63_92, u63_95, u63_98, u63_101, u63_104, u63_105, nI_add, le_n (m 66 2) (nI (i + 2)), q, not_false_iff, if_true, Nat.add_zero]
  have e := key 20 0 c 0 m rfl hm hc
  rw [Nat.zero_add] at e
  refine Eq.trans ?_ e
  simp only [u63_0, u63_1, u63_2, u63_5, u63_8, u63_10, u63_11, u63_12, u63_15, u63_16, u63_16v1, u63_16v2, u63_16v3, u63_17, u63_18, u63_19, u63_19v1, u63_19v2, u63_19v3, u63_22, u63_23, u63_26, u63_27, u63_28, u63_31, u63_32, u63_33, u63_34, u63_35, u63_39, u63_40, u63_41, u63_42, u63_42v1, u63_42v2, u63_42v3, u63_45, u63_48, u63_50, u63_51, u63_52, u63_54, u63_57, u63_58, u63_61, u63_62, u63_62v1, u63_62v2, u63_62v3, u63_65, u63_67, u63_67v1, u63_67v2, u63_67v3, u63_68, u63_69, u63_69v1, u63_69v2, u63_69v3, u63_72, u63_74, u63_75, u63_76, u63_76v1, u63_76v2, u63_76v3, u63_77, u63_78, u63_78v1, u63_78v2, u63_78v3, u63_81, u63_83, u63_84, u63_85, u63_85v1, u63_85v2, u63_85v3, u63_86, u63_89, u63_92, u63_95, u63_98, u63_101, u63_104, u63_105, s_isOneOf, pu_some, pu_none, b01_e0, show (nI 0 ≤ nI 1 ∧ nI 1 < nI 4) = True by decide, not_true, if_false, h]
theorem s_readN2 (h : m 67 1 = -1) : T S (f + 4) 63 0 [some (.ref 0), some (.int (nI 2)), none, none, none] [] m Rt = Rt (some (.int (-10 - nI 1))) (up m 0 11 (nI 1)) := by
  simp only [u63_0, u63_1, u63_2, u63_5, u63_8, u63_10, u63_11, u63_12, u63_15, u63_16, u63_16v1, u63_16v2, u63_16v3, u63_17, u63_18, u63_19, u63_19v1, u63_19v2, u63_19v3, u63_22, u63_23, u63_26, u63_27, u63_28, u63_31, u63_32, u63_33, u63_34, u63_35, u63_37, u63_39, u63_40, u63_41, u63_42, u63_42v1, u63_42v2, u63_42v3, u63_45, u63_48, u63_50, u63_51, u63_52, u63_54, u63_57, u63_58, u63_61, u63_62, u63_62v1, u63_62v2, u63_62v3, u63_65, u63_67, u63_67v1, u63_67v2, u63_67v3, u63_68, u63_69, u63_69v1, u63_69v2, u63_69v3, u63_72, u63_74, u63_75, u63_76, u63_76v1, u63_76v2, u63_76v3, u63_77, u63_78, u63_78v1, u63_78v2, u63_78v3, u63_81, u63_83, u63_84, u63_85, u63_85v1, u63_85v2, u63_85v3, u63_86, u63_89, u63_92, u63_95, u63_98, u63_101, u63_104, u63_105, s_isOneOf, pu_some, pu_none, b01_e0, show (nI 0 ≤ nI 2 ∧ nI 2 < nI 4) = True by decide, not_true, if_false, h, if_true, s_found]
set_option maxHeartbeats 1000000 in
theorem s_read2 (h : ¬ m 67 1 = -1) {c : Nat} (hm : m 60 3 = nI c) (hc : c ≤ 8) : T S (f + 4) 63 0 [some (.ref 0), some (.int (nI 2)), none, none, none] [] m Rt = Rt (some (.int (nI (readR 2 20 0 c m).1))) (readR 2 20 0 c m).2 := by
  have key : ∀ (r i c k : Nat) (m : AMem), i + 3 * r = 60 → m 60 3 = nI c → c ≤ 8 → T S (f + 4) 63 37 [some (.ref 0), some (.int (nI 2)), some (.ref 67), some (.int (nI k)), some (.int (nI i))] [] m Rt = Rt (some (.int (nI (k + (readR 2 r i c m).1)))) (readR 2 r i c m).2 := by
    intro r
    induction r with
    | zero =>
      intro i c k m hi hm hc
      have hle : 60 ≤ i + 2 := by omega
      refine u63_37.trans ?_
      by_cases q : m 67 2 ≤ nI (i + 2)
      · simp (disch := omega) only [u63_0, u63_1, u63_2, u63_5, u63_8, u63_10, u63_11, u63_12, u63_15, u63_16, u63_16v1, u63_16v2, u63_16v3, u63_17, u63_18, u63_19, u63_19v1, u63_19v2, u63_19v3, u63_22, u63_23, u63_26, u63_27, u63_28, u63_31, u63_32, u63_33, u63_34, u63_35, u63_39, u63_40, u63_41, u63_42, u63_42v1, u63_42v2, u63_42v3, u63_45, u63_48, u63_50, u63_51, u63_52, u63_54, u63_57, u63_58, u63_61, u63_62, u63_62v1, u63_62v2, u63_62v3, u63_65, u63_67, u63_67v1, u63_67v2, u63_67v3, u63_68, u63_69, u63_69v1, u63_69v2, u63_69v3, u63_72, u63_74, u63_75, u63_76, u63_76v1, u63_76v2, u63_76v3, u63_77, u63_78, u63_78v1, u63_78v2, u63_78v3, u63_81, u63_83, u63_84, u63_85, u63_85v1, u63_85v2, u63_85v3, u63_86, u63_89, u63_92, u63_95, u63_98, u63_101, u63_104, u63_105, nI_add, q, if_true, readR, Nat.add_zero]
      · simp (disch := omega) only [u63_0, u63_1, u63_2, u63_5, u63_8, u63_10, u63_11, u63_12, u63_15, u63_16, u63_16v1, u63_16v2, u63_16v3, u63_17, u63_18, u63_19, u63_19v1, u63_19v2, u63_19v3, u63_22, u63_23, u63_26, u63_27, u63_28, u63_31, u63_32, u63_33, u63_34, u63_35, u63_39, u63_40, u63_41, u63_42, u63_42v1, u63_42v2, u63_42v3, u63_45, u63_48, u63_50, u63_51, u63_52, u63_54, u63_57, u63_58, u63_61, u63_62, u63_62v1, u63_62v2, u63_62v3, u63_65, u63_67, u63_67v1, u63_67v2, u63_67v3, u63_68, u63_69, u63_69v1, u63_69v2, u63_69v3, u63_72, u63_74, u63_75, u63_76, u63_76v1, u63_76v2, u63_76v3, u63_77, u63_78, u63_78v1, u63_78v2, u63_78v3, u63_81, u63_83, u63_84, u63_85, u63_85v1, u63_85v2, u63_85v3, u63_86, u63_89, u63_92, u63_95, u63_98, u63_101, u63_104, u63_105, nI_add, q, if_false, nI_le8, hle, if_true, readR, Nat.add_zero]
    | succ r ih =>
      intro i c k m hi hm hc
      have hle : ¬ 60 ≤ i + 2 := by omega
      have hB0 : inB (nI i) 60 = true := inB8 (by omega) (by decide)
      have hB1 : inB (nI (i + 1)) 60 = true := inB8 (by omega) (by decide)
      have hB2 : inB (nI (i + 2)) 60 = true := inB8 (by omega) (by decide)
      refine u63_37.trans ?_
      by_cases q : nI (i + 2) < m 67 2
      · by_cases p : (nI 0 ≤ m 71 i ∧ m 71 i < nI 30) ∧ (¬ m 71 (i + 1) < nI 0 ∧ ¬ nI 8 ≤ m 71 (i + 1)) ∧ (¬ m 71 (i + 2) < nI 0 ∧ m 71 (i + 2) ≤ nI 999)
        · by_cases hc8 : c < 8
          · have hrd : readR 2 (r + 1) i c m = ((readR 2 r (i + 3) (c + 1) (putS c (m 71 i) (m 71 (i + 1)) (m 71 (i + 2)) m)).1 + 1, (readR 2 r (i + 3) (c + 1) (putS c (m 71 i) (m 71 (i + 1)) (m 71 (i + 2)) m)).2) := by
              conv => lhs; unfold readR
              rw [if_pos ⟨q, p, hc8⟩]
            have e := ih (i + 3) (c + 1) (k + 1) (putS c (m 71 i) (m 71 (i + 1)) (m 71 (i + 2)) m) (by omega) putS_c (by omega)
            have hn : ¬ nI (c + 1) < nI 0 := fun z => nI_pos (n := c + 1) (by omega) z
            have hge : nI 0 ≤ nI (c + 1) := Int32.not_lt.mp hn
            simp (disch := omega) only [u63_0, u63_1, u63_2, u63_5, u63_8, u63_10, u63_11, u63_12, u63_15, u63_16, u63_16v1, u63_16v2, u63_16v3, u63_17, u63_18, u63_19, u63_19v1, u63_19v2, u63_19v3, u63_22, u63_23, u63_26, u63_27, u63_28, u63_31, u63_32, u63_33, u63_34, u63_35, u63_39, u63_40, u63_41, u63_42, u63_42v1, u63_42v2, u63_42v3, u63_45, u63_48, u63_50, u63_51, u63_52, u63_54, u63_57, u63_58, u63_61, u63_62, u63_62v1, u63_62v2, u63_62v3, u63_65, u63_67, u63_67v1, u63_67v2, u63_67v3, u63_68, u63_69, u63_69v1, u63_69v2, u63_69v3, u63_72, u63_74, u63_75, u63_76, u63_76v1, u63_76v2, u63_76v3, u63_77, u63_78, u63_78v1, u63_78v2, u63_78v3, u63_81, u63_83, u63_84, u63_85, u63_85v1, u63_85v2, u63_85v3, u63_86, u63_89, u63_92, u63_95, u63_98, u63_101, u63_104, u63_105, nI_add, le_n (m 67 2) (nI (i + 2)), q, not_true, if_false, nI_le8, hle, hB0, hB1, hB2, nI_cl8, true_and, s_moreS p hm hc8, pu_some, pu_none, hge, if_true, Nat.zero_le]
            rw [e, hrd, show k + 1 + (readR 2 r (i + 3) (c + 1) (putS c (m 71 i) (m 71 (i + 1)) (m 71 (i + 2)) m)).1 = k + ((readR 2 r (i + 3) (c + 1) (putS c (m 71 i) (m 71 (i + 1)) (m 71 (i + 2)) m)).1 + 1) by omega]
          · have hrd : readR 2 (r + 1) i c m = (0, m) := by
              unfold readR
              rw [if_neg (fun z => hc8 z.2.2)]
            have h8 : m 60 3 = nI 8 := by rw [hm, show c = 8 by omega]
            rw [hrd]
            simp (disch := omega) only [u63_0, u63_1, u63_2, u63_5, u63_8, u63_10, u63_11, u63_12, u63_15, u63_16, u63_16v1, u63_16v2, u63_16v3, u63_17, u63_18, u63_19, u63_19v1, u63_19v2, u63_19v3, u63_22, u63_23, u63_26, u63_27, u63_28, u63_31, u63_32, u63_33, u63_34, u63_35, u63_39, u63_40, u63_41, u63_42, u63_42v1, u63_42v2, u63_42v3, u63_45, u63_48, u63_50, u63_51, u63_52, u63_54, u63_57, u63_58, u63_61, u63_62, u63_62v1, u63_62v2, u63_62v3, u63_65, u63_67, u63_67v1, u63_67v2, u63_67v3, u63_68, u63_69, u63_69v1, u63_69v2, u63_69v3, u63_72, u63_74, u63_75, u63_76, u63_76v1, u63_76v2, u63_76v3, u63_77, u63_78, u63_78v1, u63_78v2, u63_78v3, u63_81, u63_83, u63_84, u63_85, u63_85v1, u63_85v2, u63_85v3, u63_86, u63_89, u63_92, u63_95, u63_98, u63_101, u63_104, u63_105, nI_add, le_n (m 67 2) (nI (i + 2)), q, not_true, if_false, nI_le8, hle, hB0, hB1, hB2, nI_cl8, true_and, s_moreF p h8, pu_some, pu_none, show ¬ nI 0 ≤ -4 by decide, Nat.add_zero]
        · have hrd : readR 2 (r + 1) i c m = (0, m) := by
            unfold readR
            rw [if_neg (fun z => p z.2.1)]
          rw [hrd]
          simp (disch := omega) only [u63_0, u63_1, u63_2, u63_5, u63_8, u63_10, u63_11, u63_12, u63_15, u63_16, u63_16v1, u63_16v2, u63_16v3, u63_17, u63_18, u63_19, u63_19v1, u63_19v2, u63_19v3, u63_22, u63_23, u63_26, u63_27, u63_28, u63_31, u63_32, u63_33, u63_34, u63_35, u63_39, u63_40, u63_41, u63_42, u63_42v1, u63_42v2, u63_42v3, u63_45, u63_48, u63_50, u63_51, u63_52, u63_54, u63_57, u63_58, u63_61, u63_62, u63_62v1, u63_62v2, u63_62v3, u63_65, u63_67, u63_67v1, u63_67v2, u63_67v3, u63_68, u63_69, u63_69v1, u63_69v2, u63_69v3, u63_72, u63_74, u63_75, u63_76, u63_76v1, u63_76v2, u63_76v3, u63_77, u63_78, u63_78v1, u63_78v2, u63_78v3, u63_81, u63_83, u63_84, u63_85, u63_85v1, u63_85v2, u63_85v3, u63_86, u63_89, u63_92, u63_95, u63_98, u63_101, u63_104, u63_105, nI_add, le_n (m 67 2) (nI (i + 2)), q, not_true, if_false, nI_le8, hle, hB0, hB1, hB2, nI_cl8, true_and, s_moreB p, pu_some, pu_none, show ¬ nI 0 ≤ -2 by decide, Nat.add_zero]
      · have hrd : readR 2 (r + 1) i c m = (0, m) := by
          unfold readR
          rw [if_neg (fun z => q z.1)]
        rw [hrd]
        simp (disch := omega) only [u63_0, u63_1, u63_2, u63_5, u63_8, u63_10, u63_11, u63_12, u63_15, u63_16, u63_16v1, u63_16v2, u63_16v3, u63_17, u63_18, u63_19, u63_19v1, u63_19v2, u63_19v3, u63_22, u63_23, u63_26, u63_27, u63_28, u63_31, u63_32, u63_33, u63_34, u63_35, u63_39, u63_40, u63_41, u63_42, u63_42v1, u63_42v2, u63_42v3, u63_45, u63_48, u63_50, u63_51, u63_52, u63_54, u63_57, u63_58, u63_61, u63_62, u63_62v1, u63_62v2, u63_62v3, u63_65, u63_67, u63_67v1, u63_67v2, u63_67v3, u63_68, u63_69, u63_69v1, u63_69v2, u63_69v3, u63_72, u63_74, u63_75, u63_76, u63_76v1, u63_76v2, u63_76v3, u63_77, u63_78, u63_78v1, u63_78v2, u63_78v3, u63_81, u63_83, u63_84, u63_85, u63_85v1, u63_85v2, u63_85v3, u63_86, u63_89, u63_92, u63_95, u63_98, u63_101, u63_104, u63_105, nI_add, le_n (m 67 2) (nI (i + 2)), q, not_false_iff, if_true, Nat.add_zero]
  have e := key 20 0 c 0 m rfl hm hc
  rw [Nat.zero_add] at e
  refine Eq.trans ?_ e
  simp only [u63_0, u63_1, u63_2, u63_5, u63_8, u63_10, u63_11, u63_12, u63_15, u63_16, u63_16v1, u63_16v2, u63_16v3, u63_17, u63_18, u63_19, u63_19v1, u63_19v2, u63_19v3, u63_22, u63_23, u63_26, u63_27, u63_28, u63_31, u63_32, u63_33, u63_34, u63_35, u63_39, u63_40, u63_41, u63_42, u63_42v1, u63_42v2, u63_42v3, u63_45, u63_48, u63_50, u63_51, u63_52, u63_54, u63_57, u63_58, u63_61, u63_62, u63_62v1, u63_62v2, u63_62v3, u63_65, u63_67, u63_67v1, u63_67v2, u63_67v3, u63_68, u63_69, u63_69v1, u63_69v2, u63_69v3, u63_72, u63_74, u63_75, u63_76, u63_76v1, u63_76v2, u63_76v3, u63_77, u63_78, u63_78v1, u63_78v2, u63_78v3, u63_81, u63_83, u63_84, u63_85, u63_85v1, u63_85v2, u63_85v3, u63_86, u63_89, u63_92, u63_95, u63_98, u63_101, u63_104, u63_105, s_isOneOf, pu_some, pu_none, b01_e0, show (nI 0 ≤ nI 2 ∧ nI 2 < nI 4) = True by decide, not_true, if_false, h]
theorem s_readN3 (h : m 68 1 = -1) : T S (f + 4) 63 0 [some (.ref 0), some (.int (nI 3)), none, none, none] [] m Rt = Rt (some (.int (-10 - nI 1))) (up m 0 11 (nI 1)) := by
  simp only [u63_0, u63_1, u63_2, u63_5, u63_8, u63_10, u63_11, u63_12, u63_15, u63_16, u63_16v1, u63_16v2, u63_16v3, u63_17, u63_18, u63_19, u63_19v1, u63_19v2, u63_19v3, u63_22, u63_23, u63_26, u63_27, u63_28, u63_31, u63_32, u63_33, u63_34, u63_35, u63_37, u63_39, u63_40, u63_41, u63_42, u63_42v1, u63_42v2, u63_42v3, u63_45, u63_48, u63_50, u63_51, u63_52, u63_54, u63_57, u63_58, u63_61, u63_62, u63_62v1, u63_62v2, u63_62v3, u63_65, u63_67, u63_67v1, u63_67v2, u63_67v3, u63_68, u63_69, u63_69v1, u63_69v2, u63_69v3, u63_72, u63_74, u63_75, u63_76, u63_76v1, u63_76v2, u63_76v3, u63_77, u63_78, u63_78v1, u63_78v2, u63_78v3, u63_81, u63_83, u63_84, u63_85, u63_85v1, u63_85v2, u63_85v3, u63_86, u63_89, u63_92, u63_95, u63_98, u63_101, u63_104, u63_105, s_isOneOf, pu_some, pu_none, b01_e0, show (nI 0 ≤ nI 3 ∧ nI 3 < nI 4) = True by decide, not_true, if_false, h, if_true, s_found]
set_option maxHeartbeats 1000000 in
theorem s_read3 (h : ¬ m 68 1 = -1) {c : Nat} (hm : m 60 3 = nI c) (hc : c ≤ 8) : T S (f + 4) 63 0 [some (.ref 0), some (.int (nI 3)), none, none, none] [] m Rt = Rt (some (.int (nI (readR 3 20 0 c m).1))) (readR 3 20 0 c m).2 := by
  have key : ∀ (r i c k : Nat) (m : AMem), i + 3 * r = 60 → m 60 3 = nI c → c ≤ 8 → T S (f + 4) 63 37 [some (.ref 0), some (.int (nI 3)), some (.ref 68), some (.int (nI k)), some (.int (nI i))] [] m Rt = Rt (some (.int (nI (k + (readR 3 r i c m).1)))) (readR 3 r i c m).2 := by
    intro r
    induction r with
    | zero =>
      intro i c k m hi hm hc
      have hle : 60 ≤ i + 2 := by omega
      refine u63_37.trans ?_
      by_cases q : m 68 2 ≤ nI (i + 2)
      · simp (disch := omega) only [u63_0, u63_1, u63_2, u63_5, u63_8, u63_10, u63_11, u63_12, u63_15, u63_16, u63_16v1, u63_16v2, u63_16v3, u63_17, u63_18, u63_19, u63_19v1, u63_19v2, u63_19v3, u63_22, u63_23, u63_26, u63_27, u63_28, u63_31, u63_32, u63_33, u63_34, u63_35, u63_39, u63_40, u63_41, u63_42, u63_42v1, u63_42v2, u63_42v3, u63_45, u63_48, u63_50, u63_51, u63_52, u63_54, u63_57, u63_58, u63_61, u63_62, u63_62v1, u63_62v2, u63_62v3, u63_65, u63_67, u63_67v1, u63_67v2, u63_67v3, u63_68, u63_69, u63_69v1, u63_69v2, u63_69v3, u63_72, u63_74, u63_75, u63_76, u63_76v1, u63_76v2, u63_76v3, u63_77, u63_78, u63_78v1, u63_78v2, u63_78v3, u63_81, u63_83, u63_84, u63_85, u63_85v1, u63_85v2, u63_85v3, u63_86, u63_89, u63_92, u63_95, u63_98, u63_101, u63_104, u63_105, nI_add, q, if_true, readR, Nat.add_zero]
      · simp (disch := omega) only [u63_0, u63_1, u63_2, u63_5, u63_8, u63_10, u63_11, u63_12, u63_15, u63_16, u63_16v1, u63_16v2, u63_16v3, u63_17, u63_18, u63_19, u63_19v1, u63_19v2, u63_19v3, u63_22, u63_23, u63_26, u63_27, u63_28, u63_31, u63_32, u63_33, u63_34, u63_35, u63_39, u63_40, u63_41, u63_42, u63_42v1, u63_42v2, u63_42v3, u63_45, u63_48, u63_50, u63_51, u63_52, u63_54, u63_57, u63_58, u63_61, u63_62, u63_62v1, u63_62v2, u63_62v3, u63_65, u63_67, u63_67v1, u63_67v2, u63_67v3, u63_68, u63_69, u63_69v1, u63_69v2, u63_69v3, u63_72, u63_74, u63_75, u63_76, u63_76v1, u63_76v2, u63_76v3, u63_77, u63_78, u63_78v1, u63_78v2, u63_78v3, u63_81, u63_83, u63_84, u63_85, u63_85v1, u63_85v2, u63_85v3, u63_86, u63_89, u63_92, u63_95, u63_98, u63_101, u63_104, u63_105, nI_add, q, if_false, nI_le8, hle, if_true, readR, Nat.add_zero]
    | succ r ih =>
      intro i c k m hi hm hc
      have hle : ¬ 60 ≤ i + 2 := by omega
      have hB0 : inB (nI i) 60 = true := inB8 (by omega) (by decide)
      have hB1 : inB (nI (i + 1)) 60 = true := inB8 (by omega) (by decide)
      have hB2 : inB (nI (i + 2)) 60 = true := inB8 (by omega) (by decide)
      refine u63_37.trans ?_
      by_cases q : nI (i + 2) < m 68 2
      · by_cases p : (nI 0 ≤ m 72 i ∧ m 72 i < nI 30) ∧ (¬ m 72 (i + 1) < nI 0 ∧ ¬ nI 8 ≤ m 72 (i + 1)) ∧ (¬ m 72 (i + 2) < nI 0 ∧ m 72 (i + 2) ≤ nI 999)
        · by_cases hc8 : c < 8
          · have hrd : readR 3 (r + 1) i c m = ((readR 3 r (i + 3) (c + 1) (putS c (m 72 i) (m 72 (i + 1)) (m 72 (i + 2)) m)).1 + 1, (readR 3 r (i + 3) (c + 1) (putS c (m 72 i) (m 72 (i + 1)) (m 72 (i + 2)) m)).2) := by
              conv => lhs; unfold readR
              rw [if_pos ⟨q, p, hc8⟩]
            have e := ih (i + 3) (c + 1) (k + 1) (putS c (m 72 i) (m 72 (i + 1)) (m 72 (i + 2)) m) (by omega) putS_c (by omega)
            have hn : ¬ nI (c + 1) < nI 0 := fun z => nI_pos (n := c + 1) (by omega) z
            have hge : nI 0 ≤ nI (c + 1) := Int32.not_lt.mp hn
            simp (disch := omega) only [u63_0, u63_1, u63_2, u63_5, u63_8, u63_10, u63_11, u63_12, u63_15, u63_16, u63_16v1, u63_16v2, u63_16v3, u63_17, u63_18, u63_19, u63_19v1, u63_19v2, u63_19v3, u63_22, u63_23, u63_26, u63_27, u63_28, u63_31, u63_32, u63_33, u63_34, u63_35, u63_39, u63_40, u63_41, u63_42, u63_42v1, u63_42v2, u63_42v3, u63_45, u63_48, u63_50, u63_51, u63_52, u63_54, u63_57, u63_58, u63_61, u63_62, u63_62v1, u63_62v2, u63_62v3, u63_65, u63_67, u63_67v1, u63_67v2, u63_67v3, u63_68, u63_69, u63_69v1, u63_69v2, u63_69v3, u63_72, u63_74, u63_75, u63_76, u63_76v1, u63_76v2, u63_76v3, u63_77, u63_78, u63_78v1, u63_78v2, u63_78v3, u63_81, u63_83, u63_84, u63_85, u63_85v1, u63_85v2, u63_85v3, u63_86, u63_89, u63_92, u63_95, u63_98, u63_101, u63_104, u63_105, nI_add, le_n (m 68 2) (nI (i + 2)), q, not_true, if_false, nI_le8, hle, hB0, hB1, hB2, nI_cl8, true_and, s_moreS p hm hc8, pu_some, pu_none, hge, if_true, Nat.zero_le]
            rw [e, hrd, show k + 1 + (readR 3 r (i + 3) (c + 1) (putS c (m 72 i) (m 72 (i + 1)) (m 72 (i + 2)) m)).1 = k + ((readR 3 r (i + 3) (c + 1) (putS c (m 72 i) (m 72 (i + 1)) (m 72 (i + 2)) m)).1 + 1) by omega]
          · have hrd : readR 3 (r + 1) i c m = (0, m) := by
              unfold readR
              rw [if_neg (fun z => hc8 z.2.2)]
            have h8 : m 60 3 = nI 8 := by rw [hm, show c = 8 by omega]
            rw [hrd]
            simp (disch := omega) only [u63_0, u63_1, u63_2, u63_5, u63_8, u63_10, u63_11, u63_12, u63_15, u63_16, u63_16v1, u63_16v2, u63_16v3, u63_17, u63_18, u63_19, u63_19v1, u63_19v2, u63_19v3, u63_22, u63_23, u63_26, u63_27, u63_28, u63_31, u63_32, u63_33, u63_34, u63_35, u63_39, u63_40, u63_41, u63_42, u63_42v1, u63_42v2, u63_42v3, u63_45, u63_48, u63_50, u63_51, u63_52, u63_54, u63_57, u63_58, u63_61, u63_62, u63_62v1, u63_62v2, u63_62v3, u63_65, u63_67, u63_67v1, u63_67v2, u63_67v3, u63_68, u63_69, u63_69v1, u63_69v2, u63_69v3, u63_72, u63_74, u63_75, u63_76, u63_76v1, u63_76v2, u63_76v3, u63_77, u63_78, u63_78v1, u63_78v2, u63_78v3, u63_81, u63_83, u63_84, u63_85, u63_85v1, u63_85v2, u63_85v3, u63_86, u63_89, u63_92, u63_95, u63_98, u63_101, u63_104, u63_105, nI_add, le_n (m 68 2) (nI (i + 2)), q, not_true, if_false, nI_le8, hle, hB0, hB1, hB2, nI_cl8, true_and, s_moreF p h8, pu_some, pu_none, show ¬ nI 0 ≤ -4 by decide, Nat.add_zero]
        · have hrd : readR 3 (r + 1) i c m = (0, m) := by
            unfold readR
            rw [if_neg (fun z => p z.2.1)]
          rw [hrd]
          simp (disch := omega) only [u63_0, u63_1, u63_2, u63_5, u63_8, u63_10, u63_11, u63_12, u63_15, u63_16, u63_16v1, u63_16v2, u63_16v3, u63_17, u63_18, u63_19, u63_19v1, u63_19v2, u63_19v3, u63_22, u63_23, u63_26, u63_27, u63_28, u63_31, u63_32, u63_33, u63_34, u63_35, u63_39, u63_40, u63_41, u63_42, u63_42v1, u63_42v2, u63_42v3, u63_45, u63_48, u63_50, u63_51, u63_52, u63_54, u63_57, u63_58, u63_61, u63_62, u63_62v1, u63_62v2, u63_62v3, u63_65, u63_67, u63_67v1, u63_67v2, u63_67v3, u63_68, u63_69, u63_69v1, u63_69v2, u63_69v3, u63_72, u63_74, u63_75, u63_76, u63_76v1, u63_76v2, u63_76v3, u63_77, u63_78, u63_78v1, u63_78v2, u63_78v3, u63_81, u63_83, u63_84, u63_85, u63_85v1, u63_85v2, u63_85v3, u63_86, u63_89, u63_92, u63_95, u63_98, u63_101, u63_104, u63_105, nI_add, le_n (m 68 2) (nI (i + 2)), q, not_true, if_false, nI_le8, hle, hB0, hB1, hB2, nI_cl8, true_and, s_moreB p, pu_some, pu_none, show ¬ nI 0 ≤ -2 by decide, Nat.add_zero]
      · have hrd : readR 3 (r + 1) i c m = (0, m) := by
          unfold readR
          rw [if_neg (fun z => q z.1)]
        rw [hrd]
        simp (disch := omega) only [u63_0, u63_1, u63_2, u63_5, u63_8, u63_10, u63_11, u63_12, u63_15, u63_16, u63_16v1, u63_16v2, u63_16v3, u63_17, u63_18, u63_19, u63_19v1, u63_19v2, u63_19v3, u63_22, u63_23, u63_26, u63_27, u63_28, u63_31, u63_32, u63_33, u63_34, u63_35, u63_39, u63_40, u63_41, u63_42, u63_42v1, u63_42v2, u63_42v3, u63_45, u63_48, u63_50, u63_51, u63_52, u63_54, u63_57, u63_58, u63_61, u63_62, u63_62v1, u63_62v2, u63_62v3, u63_65, u63_67, u63_67v1, u63_67v2, u63_67v3, u63_68, u63_69, u63_69v1, u63_69v2, u63_69v3, u63_72, u63_74, u63_75, u63_76, u63_76v1, u63_76v2, u63_76v3, u63_77, u63_78, u63_78v1, u63_78v2, u63_78v3, u63_81, u63_83, u63_84, u63_85, u63_85v1, u63_85v2, u63_85v3, u63_86, u63_89, u63_92, u63_95, u63_98, u63_101, u63_104, u63_105, nI_add, le_n (m 68 2) (nI (i + 2)), q, not_false_iff, if_true, Nat.add_zero]
  have e := key 20 0 c 0 m rfl hm hc
  rw [Nat.zero_add] at e
  refine Eq.trans ?_ e
  simp only [u63_0, u63_1, u63_2, u63_5, u63_8, u63_10, u63_11, u63_12, u63_15, u63_16, u63_16v1, u63_16v2, u63_16v3, u63_17, u63_18, u63_19, u63_19v1, u63_19v2, u63_19v3, u63_22, u63_23, u63_26, u63_27, u63_28, u63_31, u63_32, u63_33, u63_34, u63_35, u63_39, u63_40, u63_41, u63_42, u63_42v1, u63_42v2, u63_42v3, u63_45, u63_48, u63_50, u63_51, u63_52, u63_54, u63_57, u63_58, u63_61, u63_62, u63_62v1, u63_62v2, u63_62v3, u63_65, u63_67, u63_67v1, u63_67v2, u63_67v3, u63_68, u63_69, u63_69v1, u63_69v2, u63_69v3, u63_72, u63_74, u63_75, u63_76, u63_76v1, u63_76v2, u63_76v3, u63_77, u63_78, u63_78v1, u63_78v2, u63_78v3, u63_81, u63_83, u63_84, u63_85, u63_85v1, u63_85v2, u63_85v3, u63_86, u63_89, u63_92, u63_95, u63_98, u63_101, u63_104, u63_105, s_isOneOf, pu_some, pu_none, b01_e0, show (nI 0 ≤ nI 3 ∧ nI 3 < nI 4) = True by decide, not_true, if_false, h]
end STORM
