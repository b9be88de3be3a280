section RUN
variable {S : AScr} {f : Nat} {m : AMem} {Rt : Option Value → AMem → Prop} {d t : Nat}
def departM (d t men s : Nat) (day : Int32) (m : AMem) : AMem := depE d s (depL d t men s day 8 0 m)
theorem s_depart (hd : dd d t) {men s : Nat} {day : Int32} (hs : s < 6) (h8 : men ≤ 8) (hm : m t 0 = nI men) : T S (f + 3) 3 0 [some (.ref d), some (.int (nI s)), some (.int day), none, none] [] m Rt = Rt none (departM d t men s day m) := by
  simp only [u3_0, u3_1]
  exact s_dep hd hs h8 8 0 m none rfl hm
theorem s_comes (hd : dd d t) {s : Nat} {day : Int32} (hs : s < 6) : T S (f + 1) 26 0 [some (.ref t), some (.int (nI s)), some (.int day)] [] m Rt = Rt (some (.int (b01 (m (t + 7) s = day ∧ (m t 4 >>> (nI s &&& 31)) &&& nI 1 = nI 0)))) m := by
  rcases hd with ⟨rfl, rfl⟩ | ⟨rfl, rfl⟩
  · simp (disch := omega) only [u26_0, u26_1, u26_1v1, u26_4, u26_5, u26_5v1, u26_6, u26_7, u26_10, u26_11, u26_11v1, u26_14, u26_15, u26_16, u26_17, u26_18, u26_21, u26_22, u26_25, u26_26, nar_z0, nar_z1, inB8 hs, nI_cl8, true_and]
    by_cases h1 : m 15 s = day <;> by_cases h2 : (m 8 4 >>> (nI s &&& 31)) &&& nI 1 = nI 0 <;> simp [h1, h2, b01]
  · simp (disch := omega) only [u26_0, u26_1, u26_1v1, u26_4, u26_5, u26_5v1, u26_6, u26_7, u26_10, u26_11, u26_11v1, u26_14, u26_15, u26_16, u26_17, u26_18, u26_21, u26_22, u26_25, u26_26, nar_z0, nar_z1, inB8 hs, nI_cl8, true_and]
    by_cases h1 : m 26 s = day <;> by_cases h2 : (m 19 4 >>> (nI s &&& 31)) &&& nI 1 = nI 0 <;> simp [h1, h2, b01]
def bedV (d : Nat) (x : Int32) (m : AMem) : Int32 := if (nI 0 ≤ x ∧ x < nI 8) ∧ nI 0 < m (d + 6) x.toNatClampNeg then x else -1
def bedW (d : Nat) (x : Int32) (m : AMem) : AMem := if (nI 0 ≤ x ∧ x < nI 8) ∧ nI 0 < m (d + 6) x.toNatClampNeg then up m (d + 6) x.toNatClampNeg (m (d + 6) x.toNatClampNeg - nI 1) else m
theorem s_bedIn (hd : dd d t) {x : Int32} : T S (f + 1) 2 0 [some (.ref d), some (.int x)] [] m Rt = Rt (some (.int (bedV d x m))) (bedW d x m) := by
  by_cases h1 : x < nI 0
  · have hn : ¬ nI 0 ≤ x := Int32.not_le.mpr h1
    rcases hd with ⟨rfl, rfl⟩ | ⟨rfl, rfl⟩
    all_goals
      simp only [u2_0, u2_1, u2_4, u2_5, u2_7, u2_10, u2_11, u2_11v1, u2_14, u2_15, u2_15v1, u2_16, u2_19, u2_20, u2_21, u2_22, u2_22v1, u2_25, u2_26, u2_27, u2_27v1, u2_28, u2_29, u2_30, u2_30v1, u2_31, u2_32, h1, if_true]
      simp [bedV, bedW, hn]
  · by_cases h2 : nI 8 ≤ x
    · have hn : ¬ x < nI 8 := Int32.not_lt.mpr h2
      rcases hd with ⟨rfl, rfl⟩ | ⟨rfl, rfl⟩
      all_goals
        simp only [u2_0, u2_1, u2_4, u2_5, u2_7, u2_10, u2_11, u2_11v1, u2_14, u2_15, u2_15v1, u2_16, u2_19, u2_20, u2_21, u2_22, u2_22v1, u2_25, u2_26, u2_27, u2_27v1, u2_28, u2_29, u2_30, u2_30v1, u2_31, u2_32, h1, h2, if_true, if_false]
        simp [bedV, bedW, hn]
    · have hP : (nI 0 ≤ x ∧ x < nI 8) := ⟨Int32.not_lt.mp h1, Int32.not_le.mp h2⟩
      have hB := inB_P hP (by decide)
      rcases hd with ⟨rfl, rfl⟩ | ⟨rfl, rfl⟩
      · by_cases h3 : nI 0 < m 36 x.toNatClampNeg
        · simp only [u2_0, u2_1, u2_4, u2_5, u2_7, u2_10, u2_11, u2_11v1, u2_14, u2_15, u2_15v1, u2_16, u2_19, u2_20, u2_21, u2_22, u2_22v1, u2_25, u2_26, u2_27, u2_27v1, u2_28, u2_29, u2_30, u2_30v1, u2_31, u2_32, h1, h2, hB, h3, if_true, if_false, true_and]
          simp [bedV, bedW, hP, h3]
        · simp only [u2_0, u2_1, u2_4, u2_5, u2_7, u2_10, u2_11, u2_11v1, u2_14, u2_15, u2_15v1, u2_16, u2_19, u2_20, u2_21, u2_22, u2_22v1, u2_25, u2_26, u2_27, u2_27v1, u2_28, u2_29, u2_30, u2_30v1, u2_31, u2_32, h1, h2, hB, h3, if_true, if_false, true_and]
          simp [bedV, bedW, hP, h3]
      · by_cases h3 : nI 0 < m 50 x.toNatClampNeg
        · simp only [u2_0, u2_1, u2_4, u2_5, u2_7, u2_10, u2_11, u2_11v1, u2_14, u2_15, u2_15v1, u2_16, u2_19, u2_20, u2_21, u2_22, u2_22v1, u2_25, u2_26, u2_27, u2_27v1, u2_28, u2_29, u2_30, u2_30v1, u2_31, u2_32, h1, h2, hB, h3, if_true, if_false, true_and]
          simp [bedV, bedW, hP, h3]
        · simp only [u2_0, u2_1, u2_4, u2_5, u2_7, u2_10, u2_11, u2_11v1, u2_14, u2_15, u2_15v1, u2_16, u2_19, u2_20, u2_21, u2_22, u2_22v1, u2_25, u2_26, u2_27, u2_27v1, u2_28, u2_29, u2_30, u2_30v1, u2_31, u2_32, h1, h2, hB, h3, if_true, if_false, true_and]
          simp [bedV, bedW, hP, h3]
def beg1 (d k : Nat) (m : AMem) : AMem := up (up (up m (d + 7) k (nI 0)) (d + 8) k (nI 0)) (d + 9) k (nI 0)
def beg2 (d t k : Nat) (m : AMem) : AMem := up (up m (d + 5) k (nI 0)) (d + 6) k (if nI k < m t 1 then m (t + 6) k else nI 0)
def beg3 (d t k : Nat) (m : AMem) : AMem :=
  let m2 := up (up m (d + 1) k (if m (t + 1) k = nI 3 then nI 1 else nI 0)) (d + 2) k (nI 10 * m (t + 3) k)
  up (up (bedW d (m (t + 4) k) m2) (d + 3) k (bedV d (m (t + 4) k) m2)) (d + 4) k (-1)
def beginM (d t men : Nat) (m : AMem) : AMem := it men (beg3 d t) (it 8 (beg2 d t) (it 6 (beg1 d) (up m d 14 (-1))))
theorem bedW_t {x : Int32} {a j : Nat} (h : a < d ∨ d + 14 ≤ a) : bedW d x m a j = m a j := by
  unfold bedW
  split
  · rw [up_ap, if_neg (by omega)]
  · rfl
theorem beg3_t {k a j : Nat} (h : a < d ∨ d + 14 ≤ a) : beg3 d t k m a j = m a j := by
  unfold beg3
  simp only [up_ap]
  rw [if_neg (by omega), if_neg (by omega), bedW_t h]
  simp only [up_ap]
  rw [if_neg (by omega), if_neg (by omega)]
theorem beg2_t {k a j : Nat} (h : a < d ∨ d + 14 ≤ a) : beg2 d t k m a j = m a j := by
  unfold beg2
  simp only [up_ap]
  rw [if_neg (by omega), if_neg (by omega)]
theorem beg1_t {k a j : Nat} (h : a < d ∨ d + 14 ≤ a) : beg1 d k m a j = m a j := by
  unfold beg1
  simp only [up_ap]
  rw [if_neg (by omega), if_neg (by omega), if_neg (by omega)]
theorem it_at {F : Nat → AMem → AMem} {a j n : Nat} (h : ∀ k m, F k m a j = m a j) (m : AMem) : it n F m a j = m a j := by
  induction n with
  | zero => rfl
  | succ n ih => rw [it_s, h, ih]
set_option maxHeartbeats 1000000 in
theorem s_begin (hd : dd d t) {men : Nat} (h8 : men ≤ 8) (hm : m t 0 = nI men) : T S (f + 2) 1 0 [some (.ref d), none] [] m Rt = Rt none (beginM d t men m) := by
  have htd := dd_t hd
  have e1 := fun (m : AMem) => it_run (fun k (m : AMem) => T S (f + 2) 1 7 [some (.ref d), some (.int (nI k))] [] m Rt) (beg1 d) (fun _ _ => True) 6 (fun _ _ _ _ => trivial) (fun k hk m _ => by
    have h6 : ¬ 6 ≤ k := by omega
    rcases hd with ⟨rfl, rfl⟩ | ⟨rfl, rfl⟩
    all_goals
      refine u1_7.trans ?_
      simp (disch := omega) only [u1_0, u1_1, u1_2, u1_2v1, u1_5, u1_6, u1_8, u1_10, u1_13, u1_14, u1_14v1, u1_17, u1_18, u1_19, u1_19v1, u1_20, u1_21, u1_21v1, u1_24, u1_25, u1_26, u1_26v1, u1_27, u1_28, u1_28v1, u1_31, u1_32, u1_33, u1_33v1, u1_34, u1_37, u1_40, u1_41, u1_43, u1_45, u1_48, u1_49, u1_49v1, u1_52, u1_53, u1_54, u1_54v1, u1_55, u1_56, u1_56v1, u1_59, u1_60, u1_61, u1_62, u1_62v1, u1_65, u1_65v1, u1_68, u1_71, u1_72, u1_72v1, u1_75, u1_75v1, u1_78, u1_79, u1_79v1, u1_80, u1_83, u1_84, u1_84v1, u1_85, u1_88, u1_91, u1_92, u1_94, u1_95, u1_95v1, u1_98, u1_98v1, u1_101, u1_104, u1_105, u1_105v1, u1_108, u1_109, u1_110, u1_110v1, u1_113, u1_113v1, u1_116, u1_117, u1_117v1, u1_118, u1_119, u1_122, u1_123, u1_126, u1_127, u1_127v1, u1_128, u1_129, u1_129v1, u1_132, u1_133, u1_135, u1_136, u1_136v1, u1_139, u1_139v1, u1_142, u1_143, u1_143v1, u1_144, u1_145, u1_145v1, u1_146, u1_147, u1_147v1, u1_150, u1_151, u1_152, u1_153, u1_153v1, u1_156, u1_156v1, u1_159, u1_160, u1_160v1, u1_161, u1_161v1, u1_164, u1_164v1, u1_165, u1_166, u1_166v1, u1_169, u1_170, u1_171, u1_171v1, u1_172, u1_175, u1_178, nI_le8, h6, if_false, inB8 hk, nI_cl8, true_and, nI_add]
      rfl) m trivial
  have e2 := fun (m : AMem) => it_run (fun k (m : AMem) => T S (f + 2) 1 42 [some (.ref d), some (.int (nI k))] [] m Rt) (beg2 d t) (fun _ _ => True) 8 (fun _ _ _ _ => trivial) (fun k hk m _ => by
    have h6 : ¬ 8 ≤ k := by omega
    rcases hd with ⟨rfl, rfl⟩ | ⟨rfl, rfl⟩
    · refine u1_42.trans ?_
      simp (disch := omega) only [u1_0, u1_1, u1_2, u1_2v1, u1_5, u1_6, u1_8, u1_10, u1_13, u1_14, u1_14v1, u1_17, u1_18, u1_19, u1_19v1, u1_20, u1_21, u1_21v1, u1_24, u1_25, u1_26, u1_26v1, u1_27, u1_28, u1_28v1, u1_31, u1_32, u1_33, u1_33v1, u1_34, u1_37, u1_40, u1_41, u1_43, u1_45, u1_48, u1_49, u1_49v1, u1_52, u1_53, u1_54, u1_54v1, u1_55, u1_56, u1_56v1, u1_59, u1_60, u1_61, u1_62, u1_62v1, u1_65, u1_65v1, u1_68, u1_71, u1_72, u1_72v1, u1_75, u1_75v1, u1_78, u1_79, u1_79v1, u1_80, u1_83, u1_84, u1_84v1, u1_85, u1_88, u1_91, u1_92, u1_94, u1_95, u1_95v1, u1_98, u1_98v1, u1_101, u1_104, u1_105, u1_105v1, u1_108, u1_109, u1_110, u1_110v1, u1_113, u1_113v1, u1_116, u1_117, u1_117v1, u1_118, u1_119, u1_122, u1_123, u1_126, u1_127, u1_127v1, u1_128, u1_129, u1_129v1, u1_132, u1_133, u1_135, u1_136, u1_136v1, u1_139, u1_139v1, u1_142, u1_143, u1_143v1, u1_144, u1_145, u1_145v1, u1_146, u1_147, u1_147v1, u1_150, u1_151, u1_152, u1_153, u1_153v1, u1_156, u1_156v1, u1_159, u1_160, u1_160v1, u1_161, u1_161v1, u1_164, u1_164v1, u1_165, u1_166, u1_166v1, u1_169, u1_170, u1_171, u1_171v1, u1_172, u1_175, u1_178, nI_le8, h6, if_false, inB8 hk, nI_cl8, true_and, nI_add, up_ap, upA_ap, Nat.reduceEqDiff, false_and, true_and, and_true, and_false, and_self, if_false, if_true]
      unfold beg2
      by_cases h : nI k < m 8 1
      · simp only [le_n (m 8 1) (nI k), h, not_true, if_false, if_true, Nat.reduceAdd]
      · simp only [le_n (m 8 1) (nI k), h, not_false_iff, if_false, if_true, Nat.reduceAdd]
    · refine u1_42.trans ?_
      simp (disch := omega) only [u1_0, u1_1, u1_2, u1_2v1, u1_5, u1_6, u1_8, u1_10, u1_13, u1_14, u1_14v1, u1_17, u1_18, u1_19, u1_19v1, u1_20, u1_21, u1_21v1, u1_24, u1_25, u1_26, u1_26v1, u1_27, u1_28, u1_28v1, u1_31, u1_32, u1_33, u1_33v1, u1_34, u1_37, u1_40, u1_41, u1_43, u1_45, u1_48, u1_49, u1_49v1, u1_52, u1_53, u1_54, u1_54v1, u1_55, u1_56, u1_56v1, u1_59, u1_60, u1_61, u1_62, u1_62v1, u1_65, u1_65v1, u1_68, u1_71, u1_72, u1_72v1, u1_75, u1_75v1, u1_78, u1_79, u1_79v1, u1_80, u1_83, u1_84, u1_84v1, u1_85, u1_88, u1_91, u1_92, u1_94, u1_95, u1_95v1, u1_98, u1_98v1, u1_101, u1_104, u1_105, u1_105v1, u1_108, u1_109, u1_110, u1_110v1, u1_113, u1_113v1, u1_116, u1_117, u1_117v1, u1_118, u1_119, u1_122, u1_123, u1_126, u1_127, u1_127v1, u1_128, u1_129, u1_129v1, u1_132, u1_133, u1_135, u1_136, u1_136v1, u1_139, u1_139v1, u1_142, u1_143, u1_143v1, u1_144, u1_145, u1_145v1, u1_146, u1_147, u1_147v1, u1_150, u1_151, u1_152, u1_153, u1_153v1, u1_156, u1_156v1, u1_159, u1_160, u1_160v1, u1_161, u1_161v1, u1_164, u1_164v1, u1_165, u1_166, u1_166v1, u1_169, u1_170, u1_171, u1_171v1, u1_172, u1_175, u1_178, nI_le8, h6, if_false, inB8 hk, nI_cl8, true_and, nI_add, up_ap, upA_ap, Nat.reduceEqDiff, false_and, true_and, and_true, and_false, and_self, if_false, if_true]
      unfold beg2
      by_cases h : nI k < m 19 1
      · simp only [le_n (m 19 1) (nI k), h, not_true, if_false, if_true, Nat.reduceAdd]
      · simp only [le_n (m 19 1) (nI k), h, not_false_iff, if_false, if_true, Nat.reduceAdd]) m trivial
  have e3 := fun (m : AMem) (hm : m t 0 = nI men) => it_run (fun k (m : AMem) => T S (f + 2) 1 93 [some (.ref d), some (.int (nI k))] [] m Rt) (beg3 d t) (fun _ m => m t 0 = nI men) men (fun k _ m h => by rw [beg3_t htd]; exact h) (fun k hk m hm => by
    have h6 : ¬ men ≤ k := by omega
    have hk8 : k < 8 := by omega
    rcases hd with ⟨rfl, rfl⟩ | ⟨rfl, rfl⟩
    · refine u1_93.trans ?_
      by_cases h : m 9 k = nI 3
      · simp (disch := omega) only [u1_0, u1_1, u1_2, u1_2v1, u1_5, u1_6, u1_8, u1_10, u1_13, u1_14, u1_14v1, u1_17, u1_18, u1_19, u1_19v1, u1_20, u1_21, u1_21v1, u1_24, u1_25, u1_26, u1_26v1, u1_27, u1_28, u1_28v1, u1_31, u1_32, u1_33, u1_33v1, u1_34, u1_37, u1_40, u1_41, u1_43, u1_45, u1_48, u1_49, u1_49v1, u1_52, u1_53, u1_54, u1_54v1, u1_55, u1_56, u1_56v1, u1_59, u1_60, u1_61, u1_62, u1_62v1, u1_65, u1_65v1, u1_68, u1_71, u1_72, u1_72v1, u1_75, u1_75v1, u1_78, u1_79, u1_79v1, u1_80, u1_83, u1_84, u1_84v1, u1_85, u1_88, u1_91, u1_92, u1_94, u1_95, u1_95v1, u1_98, u1_98v1, u1_101, u1_104, u1_105, u1_105v1, u1_108, u1_109, u1_110, u1_110v1, u1_113, u1_113v1, u1_116, u1_117, u1_117v1, u1_118, u1_119, u1_122, u1_123, u1_126, u1_127, u1_127v1, u1_128, u1_129, u1_129v1, u1_132, u1_133, u1_135, u1_136, u1_136v1, u1_139, u1_139v1, u1_142, u1_143, u1_143v1, u1_144, u1_145, u1_145v1, u1_146, u1_147, u1_147v1, u1_150, u1_151, u1_152, u1_153, u1_153v1, u1_156, u1_156v1, u1_159, u1_160, u1_160v1, u1_161, u1_161v1, u1_164, u1_164v1, u1_165, u1_166, u1_166v1, u1_169, u1_170, u1_171, u1_171v1, u1_172, u1_175, u1_178, nI_le8, h6, hm, if_false, inB8 hk8, nI_cl8, true_and, nI_add, up_ap, upA_ap, Nat.reduceEqDiff, false_and, true_and, and_true, and_false, and_self, if_false, if_true, h, s_bedIn (Or.inl ⟨rfl, rfl⟩), pu_some, pu_none]
        simp only [beg3, Nat.reduceAdd, h, if_true]
      · simp (disch := omega) only [u1_0, u1_1, u1_2, u1_2v1, u1_5, u1_6, u1_8, u1_10, u1_13, u1_14, u1_14v1, u1_17, u1_18, u1_19, u1_19v1, u1_20, u1_21, u1_21v1, u1_24, u1_25, u1_26, u1_26v1, u1_27, u1_28, u1_28v1, u1_31, u1_32, u1_33, u1_33v1, u1_34, u1_37, u1_40, u1_41, u1_43, u1_45, u1_48, u1_49, u1_49v1, u1_52, u1_53, u1_54, u1_54v1, u1_55, u1_56, u1_56v1, u1_59, u1_60, u1_61, u1_62, u1_62v1, u1_65, u1_65v1, u1_68, u1_71, u1_72, u1_72v1, u1_75, u1_75v1, u1_78, u1_79, u1_79v1, u1_80, u1_83, u1_84, u1_84v1, u1_85, u1_88, u1_91, u1_92, u1_94, u1_95, u1_95v1, u1_98, u1_98v1, u1_101, u1_104, u1_105, u1_105v1, u1_108, u1_109, u1_110, u1_110v1, u1_113, u1_113v1, u1_116, u1_117, u1_117v1, u1_118, u1_119, u1_122, u1_123, u1_126, u1_127, u1_127v1, u1_128, u1_129, u1_129v1, u1_132, u1_133, u1_135, u1_136, u1_136v1, u1_139, u1_139v1, u1_142, u1_143, u1_143v1, u1_144, u1_145, u1_145v1, u1_146, u1_147, u1_147v1, u1_150, u1_151, u1_152, u1_153, u1_153v1, u1_156, u1_156v1, u1_159, u1_160, u1_160v1, u1_161, u1_161v1, u1_164, u1_164v1, u1_165, u1_166, u1_166v1, u1_169, u1_170, u1_171, u1_171v1, u1_172, u1_175, u1_178, nI_le8, h6, hm, if_false, inB8 hk8, nI_cl8, true_and, nI_add, up_ap, upA_ap, Nat.reduceEqDiff, false_and, true_and, and_true, and_false, and_self, if_false, if_true, h, s_bedIn (Or.inl ⟨rfl, rfl⟩), pu_some, pu_none]
        simp only [beg3, Nat.reduceAdd, h, if_false]
    · refine u1_93.trans ?_
      by_cases h : m 20 k = nI 3
      · simp (disch := omega) only [u1_0, u1_1, u1_2, u1_2v1, u1_5, u1_6, u1_8, u1_10, u1_13, u1_14, u1_14v1, u1_17, u1_18, u1_19, u1_19v1, u1_20, u1_21, u1_21v1, u1_24, u1_25, u1_26, u1_26v1, u1_27, u1_28, u1_28v1, u1_31, u1_32, u1_33, u1_33v1, u1_34, u1_37, u1_40, u1_41, u1_43, u1_45, u1_48, u1_49, u1_49v1, u1_52, u1_53, u1_54, u1_54v1, u1_55, u1_56, u1_56v1, u1_59, u1_60, u1_61, u1_62, u1_62v1, u1_65, u1_65v1, u1_68, u1_71, u1_72, u1_72v1, u1_75, u1_75v1, u1_78, u1_79, u1_79v1, u1_80, u1_83, u1_84, u1_84v1, u1_85, u1_88, u1_91, u1_92, u1_94, u1_95, u1_95v1, u1_98, u1_98v1, u1_101, u1_104, u1_105, u1_105v1, u1_108, u1_109, u1_110, u1_110v1, u1_113, u1_113v1, u1_116, u1_117, u1_117v1, u1_118, u1_119, u1_122, u1_123, u1_126, u1_127, u1_127v1, u1_128, u1_129, u1_129v1, u1_132, u1_133, u1_135, u1_136, u1_136v1, u1_139, u1_139v1, u1_142, u1_143, u1_143v1, u1_144, u1_145, u1_145v1, u1_146, u1_147, u1_147v1, u1_150, u1_151, u1_152, u1_153, u1_153v1, u1_156, u1_156v1, u1_159, u1_160, u1_160v1, u1_161, u1_161v1, u1_164, u1_164v1, u1_165, u1_166, u1_166v1, u1_169, u1_170, u1_171, u1_171v1, u1_172, u1_175, u1_178, nI_le8, h6, hm, if_false, inB8 hk8, nI_cl8, true_and, nI_add, up_ap, upA_ap, Nat.reduceEqDiff, false_and, true_and, and_true, and_false, and_self, if_false, if_true, h, s_bedIn (Or.inr ⟨rfl, rfl⟩), pu_some, pu_none]
        simp only [beg3, Nat.reduceAdd, h, if_true]
      · simp (disch := omega) only [u1_0, u1_1, u1_2, u1_2v1, u1_5, u1_6, u1_8, u1_10, u1_13, u1_14, u1_14v1, u1_17, u1_18, u1_19, u1_19v1, u1_20, u1_21, u1_21v1, u1_24, u1_25, u1_26, u1_26v1, u1_27, u1_28, u1_28v1, u1_31, u1_32, u1_33, u1_33v1, u1_34, u1_37, u1_40, u1_41, u1_43, u1_45, u1_48, u1_49, u1_49v1, u1_52, u1_53, u1_54, u1_54v1, u1_55, u1_56, u1_56v1, u1_59, u1_60, u1_61, u1_62, u1_62v1, u1_65, u1_65v1, u1_68, u1_71, u1_72, u1_72v1, u1_75, u1_75v1, u1_78, u1_79, u1_79v1, u1_80, u1_83, u1_84, u1_84v1, u1_85, u1_88, u1_91, u1_92, u1_94, u1_95, u1_95v1, u1_98, u1_98v1, u1_101, u1_104, u1_105, u1_105v1, u1_108, u1_109, u1_110, u1_110v1, u1_113, u1_113v1, u1_116, u1_117, u1_117v1, u1_118, u1_119, u1_122, u1_123, u1_126, u1_127, u1_127v1, u1_128, u1_129, u1_129v1, u1_132, u1_133, u1_135, u1_136, u1_136v1, u1_139, u1_139v1, u1_142, u1_143, u1_143v1, u1_144, u1_145, u1_145v1, u1_146, u1_147, u1_147v1, u1_150, u1_151, u1_152, u1_153, u1_153v1, u1_156, u1_156v1, u1_159, u1_160, u1_160v1, u1_161, u1_161v1, u1_164, u1_164v1, u1_165, u1_166, u1_166v1, u1_169, u1_170, u1_171, u1_171v1, u1_172, u1_175, u1_178, nI_le8, h6, hm, if_false, inB8 hk8, nI_cl8, true_and, nI_add, up_ap, upA_ap, Nat.reduceEqDiff, false_and, true_and, and_true, and_false, and_self, if_false, if_true, h, s_bedIn (Or.inr ⟨rfl, rfl⟩), pu_some, pu_none]
        simp only [beg3, Nat.reduceAdd, h, if_false]) m hm
  have x1 : ∀ m, T S (f + 2) 1 7 [some (.ref d), some (.int (nI 6))] [] m Rt = T S (f + 2) 1 42 [some (.ref d), some (.int (nI 0))] [] m Rt := fun m => by
    refine u1_7.trans ?_
    simp (disch := omega) only [u1_0, u1_1, u1_2, u1_2v1, u1_5, u1_6, u1_8, u1_10, u1_13, u1_14, u1_14v1, u1_17, u1_18, u1_19, u1_19v1, u1_20, u1_21, u1_21v1, u1_24, u1_25, u1_26, u1_26v1, u1_27, u1_28, u1_28v1, u1_31, u1_32, u1_33, u1_33v1, u1_34, u1_37, u1_40, u1_41, u1_43, u1_45, u1_48, u1_49, u1_49v1, u1_52, u1_53, u1_54, u1_54v1, u1_55, u1_56, u1_56v1, u1_59, u1_60, u1_61, u1_62, u1_62v1, u1_65, u1_65v1, u1_68, u1_71, u1_72, u1_72v1, u1_75, u1_75v1, u1_78, u1_79, u1_79v1, u1_80, u1_83, u1_84, u1_84v1, u1_85, u1_88, u1_91, u1_92, u1_94, u1_95, u1_95v1, u1_98, u1_98v1, u1_101, u1_104, u1_105, u1_105v1, u1_108, u1_109, u1_110, u1_110v1, u1_113, u1_113v1, u1_116, u1_117, u1_117v1, u1_118, u1_119, u1_122, u1_123, u1_126, u1_127, u1_127v1, u1_128, u1_129, u1_129v1, u1_132, u1_133, u1_135, u1_136, u1_136v1, u1_139, u1_139v1, u1_142, u1_143, u1_143v1, u1_144, u1_145, u1_145v1, u1_146, u1_147, u1_147v1, u1_150, u1_151, u1_152, u1_153, u1_153v1, u1_156, u1_156v1, u1_159, u1_160, u1_160v1, u1_161, u1_161v1, u1_164, u1_164v1, u1_165, u1_166, u1_166v1, u1_169, u1_170, u1_171, u1_171v1, u1_172, u1_175, u1_178, nI_le8, Nat.le_refl, if_true]
  have x2 : ∀ m, T S (f + 2) 1 42 [some (.ref d), some (.int (nI 8))] [] m Rt = T S (f + 2) 1 93 [some (.ref d), some (.int (nI 0))] [] m Rt := fun m => by
    refine u1_42.trans ?_
    simp (disch := omega) only [u1_0, u1_1, u1_2, u1_2v1, u1_5, u1_6, u1_8, u1_10, u1_13, u1_14, u1_14v1, u1_17, u1_18, u1_19, u1_19v1, u1_20, u1_21, u1_21v1, u1_24, u1_25, u1_26, u1_26v1, u1_27, u1_28, u1_28v1, u1_31, u1_32, u1_33, u1_33v1, u1_34, u1_37, u1_40, u1_41, u1_43, u1_45, u1_48, u1_49, u1_49v1, u1_52, u1_53, u1_54, u1_54v1, u1_55, u1_56, u1_56v1, u1_59, u1_60, u1_61, u1_62, u1_62v1, u1_65, u1_65v1, u1_68, u1_71, u1_72, u1_72v1, u1_75, u1_75v1, u1_78, u1_79, u1_79v1, u1_80, u1_83, u1_84, u1_84v1, u1_85, u1_88, u1_91, u1_92, u1_94, u1_95, u1_95v1, u1_98, u1_98v1, u1_101, u1_104, u1_105, u1_105v1, u1_108, u1_109, u1_110, u1_110v1, u1_113, u1_113v1, u1_116, u1_117, u1_117v1, u1_118, u1_119, u1_122, u1_123, u1_126, u1_127, u1_127v1, u1_128, u1_129, u1_129v1, u1_132, u1_133, u1_135, u1_136, u1_136v1, u1_139, u1_139v1, u1_142, u1_143, u1_143v1, u1_144, u1_145, u1_145v1, u1_146, u1_147, u1_147v1, u1_150, u1_151, u1_152, u1_153, u1_153v1, u1_156, u1_156v1, u1_159, u1_160, u1_160v1, u1_161, u1_161v1, u1_164, u1_164v1, u1_165, u1_166, u1_166v1, u1_169, u1_170, u1_171, u1_171v1, u1_172, u1_175, u1_178, nI_le8, Nat.le_refl, if_true]
  have x3 : ∀ m, m t 0 = nI men → T S (f + 2) 1 93 [some (.ref d), some (.int (nI men))] [] m Rt = Rt none m := fun m hm => by
    rcases hd with ⟨rfl, rfl⟩ | ⟨rfl, rfl⟩
    all_goals
      refine u1_93.trans ?_
      simp (disch := omega) only [u1_0, u1_1, u1_2, u1_2v1, u1_5, u1_6, u1_8, u1_10, u1_13, u1_14, u1_14v1, u1_17, u1_18, u1_19, u1_19v1, u1_20, u1_21, u1_21v1, u1_24, u1_25, u1_26, u1_26v1, u1_27, u1_28, u1_28v1, u1_31, u1_32, u1_33, u1_33v1, u1_34, u1_37, u1_40, u1_41, u1_43, u1_45, u1_48, u1_49, u1_49v1, u1_52, u1_53, u1_54, u1_54v1, u1_55, u1_56, u1_56v1, u1_59, u1_60, u1_61, u1_62, u1_62v1, u1_65, u1_65v1, u1_68, u1_71, u1_72, u1_72v1, u1_75, u1_75v1, u1_78, u1_79, u1_79v1, u1_80, u1_83, u1_84, u1_84v1, u1_85, u1_88, u1_91, u1_92, u1_94, u1_95, u1_95v1, u1_98, u1_98v1, u1_101, u1_104, u1_105, u1_105v1, u1_108, u1_109, u1_110, u1_110v1, u1_113, u1_113v1, u1_116, u1_117, u1_117v1, u1_118, u1_119, u1_122, u1_123, u1_126, u1_127, u1_127v1, u1_128, u1_129, u1_129v1, u1_132, u1_133, u1_135, u1_136, u1_136v1, u1_139, u1_139v1, u1_142, u1_143, u1_143v1, u1_144, u1_145, u1_145v1, u1_146, u1_147, u1_147v1, u1_150, u1_151, u1_152, u1_153, u1_153v1, u1_156, u1_156v1, u1_159, u1_160, u1_160v1, u1_161, u1_161v1, u1_164, u1_164v1, u1_165, u1_166, u1_166v1, u1_169, u1_170, u1_171, u1_171v1, u1_172, u1_175, u1_178, nI_le8, hm, Nat.le_refl, if_true]
  have hq : ∀ m : AMem, m t 0 = nI men → (it 8 (beg2 d t) (it 6 (beg1 d) (up m d 14 (-1)))) t 0 = nI men := fun m hm => by
    rw [it_at (fun k m => beg2_t htd), it_at (fun k m => beg1_t htd), up_ap, if_neg (by omega)]
    exact hm
  have hq3 : ∀ m : AMem, m t 0 = nI men → (it men (beg3 d t) m) t 0 = nI men := fun m hm => by
    rw [it_at (fun k m => beg3_t htd)]
    exact hm
  have e0 : T S (f + 2) 1 0 [some (.ref d), none] [] m Rt = T S (f + 2) 1 7 [some (.ref d), some (.int (nI 0))] [] (up m d 14 (-1)) Rt := by
    rcases hd with ⟨rfl, rfl⟩ | ⟨rfl, rfl⟩
    all_goals simp only [u1_0, u1_1, u1_2, u1_2v1, u1_5, u1_6, u1_8, u1_10, u1_13, u1_14, u1_14v1, u1_17, u1_18, u1_19, u1_19v1, u1_20, u1_21, u1_21v1, u1_24, u1_25, u1_26, u1_26v1, u1_27, u1_28, u1_28v1, u1_31, u1_32, u1_33, u1_33v1, u1_34, u1_37, u1_40, u1_41, u1_43, u1_45, u1_48, u1_49, u1_49v1, u1_52, u1_53, u1_54, u1_54v1, u1_55, u1_56, u1_56v1, u1_59, u1_60, u1_61, u1_62, u1_62v1, u1_65, u1_65v1, u1_68, u1_71, u1_72, u1_72v1, u1_75, u1_75v1, u1_78, u1_79, u1_79v1, u1_80, u1_83, u1_84, u1_84v1, u1_85, u1_88, u1_91, u1_92, u1_94, u1_95, u1_95v1, u1_98, u1_98v1, u1_101, u1_104, u1_105, u1_105v1, u1_108, u1_109, u1_110, u1_110v1, u1_113, u1_113v1, u1_116, u1_117, u1_117v1, u1_118, u1_119, u1_122, u1_123, u1_126, u1_127, u1_127v1, u1_128, u1_129, u1_129v1, u1_132, u1_133, u1_135, u1_136, u1_136v1, u1_139, u1_139v1, u1_142, u1_143, u1_143v1, u1_144, u1_145, u1_145v1, u1_146, u1_147, u1_147v1, u1_150, u1_151, u1_152, u1_153, u1_153v1, u1_156, u1_156v1, u1_159, u1_160, u1_160v1, u1_161, u1_161v1, u1_164, u1_164v1, u1_165, u1_166, u1_166v1, u1_169, u1_170, u1_171, u1_171v1, u1_172, u1_175, u1_178]
  exact e0.trans ((e1 _).trans ((x1 _).trans ((e2 _).trans ((x2 _).trans ((e3 _ (hq m hm)).trans (x3 _ (hq3 _ (hq m hm))))))))
end RUN
