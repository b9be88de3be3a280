section MCOMES
variable {S : AScr} {f : Nat} {m : AMem} {Rt : Option Value → AMem → Prop} {men inns fleet : Nat} {lo : Nat → Nat}
def pickF (men s n : Nat) (m : AMem) : AMem := match nextM men s m with
  | none => m
  | some k => up (up m 90 s (m 90 s ||| nI 1 <<< (nI k &&& 31))) 91 s (m 91 s ||| (if nI n < m 85 s ∧ nI 1 < m 76 k then nI 1 <<< (nI k &&& 31) else nI 0))
def sailF (s : Nat) (y day : Int32) (k : Nat) (m : AMem) : AMem := if bitI (m 92 s) k = true then up (up (up (up (up m 89 (m 88 k).toNatClampNeg (m 89 (m 88 k).toNatClampNeg + y)) 88 k (nI (8 + s))) 86 k (nI 0)) 93 k day) 73 24 (nI k) else m
def byM (s : Nat) (m : AMem) : Int32 := nI 10 * (if m 84 s < m 73 15 then m 84 s else m 73 15)
def cMid (men s : Nat) (m : AMem) : AMem := up (it (m 83 s).toNatClampNeg (pickF men s) m) 92 s (it (m 83 s).toNatClampNeg (pickF men s) m 90 s &&& (it (m 83 s).toNatClampNeg (pickF men s) m 91 s ^^^ -1))
def mComesM (men s : Nat) (day : Int32) (m : AMem) : AMem := it men (sailF s (byM s m) day) (cMid men s m)
/-- who is taken is in a house -/
def InH (men s : Nat) (m : AMem) : Prop := ∃ b a, b < 256 ∧ a < 256 ∧ m 90 s = nI b ∧ m 91 s = nI a ∧ ∀ k, k < 8 → b.testBit k = true → k < men ∧ nI 0 ≤ m 88 k ∧ m 88 k < nI 8
theorem next_in {s k : Nat} (h : nextM men s m = some k) : (nI 0 ≤ m 88 k ∧ m 88 k < nI 8) ∧ nI 0 < m 86 k := by
  have key := it_I (fun k best => if nextC s m k best = true then some k else best) (fun _ (b : Option Nat) => ∀ j, b = some j → (nI 0 ≤ m 88 j ∧ m 88 j < nI 8) ∧ nI 0 < m 86 j) men (fun k _ b hb j hj => by
    split at hj
    · rename_i hc
      have e : k = j := Option.some.inj hj
      rw [← e]
      unfold nextC at hc
      rw [Bool.and_eq_true] at hc
      have := of_decide_eq_true hc.1
      exact ⟨this.1, this.2.1⟩
    · exact hb j hj) none (fun j hj => by cases hj) men (Nat.le_refl _)
  exact key k h
theorem pick_row {s n a : Nat} (h : a ≠ 90 ∧ a ≠ 91) : pickF men s n m a = m a := by
  unfold pickF
  cases nextM men s m with
  | none => rfl
  | some k =>
    simp only
    rw [up_row (by omega), up_row (by omega)]
theorem pick_at {s n a j : Nat} (h : j ≠ s) : pickF men s n m a j = m a j := by
  unfold pickF
  cases nextM men s m with
  | none => rfl
  | some k =>
    simp only [up_ap]
    rw [if_neg (by omega), if_neg (by omega)]
theorem pick_in {s n : Nat} (h8 : men ≤ 8) (h : InH men s m) : InH men s (pickF men s n m) := by
  obtain ⟨b, a, hb, ha, e1, e2, h3⟩ := h
  unfold pickF
  cases q : nextM men s m with
  | none => exact ⟨b, a, hb, ha, e1, e2, h3⟩
  | some k =>
    have hk := next_lt q
    have hn := (next_in q).1
    obtain ⟨o1, o2⟩ := or8 (k := k) hb (by omega)
    obtain ⟨o3, o4⟩ := or8 (k := k) ha (by omega)
    have tail : ∀ i, i < 8 → (b ||| 2 ^ k).testBit i = true → i < men ∧ nI 0 ≤ m 88 i ∧ m 88 i < nI 8 := by
      intro i hi ht
      rw [or_bit, Bool.or_eq_true] at ht
      rcases ht with ht | ht
      · exact h3 i hi ht
      · have : k = i := of_decide_eq_true ht
        rw [← this]
        exact ⟨hk, hn⟩
    by_cases p : nI n < m 85 s ∧ nI 1 < m 76 k
    · refine ⟨b ||| 2 ^ k, a ||| 2 ^ k, o2, o4, ?_, ?_, ?_⟩
      · simp only [up_ap, upA_ap, Nat.reduceEqDiff, false_and, true_and, and_true, and_false, and_self, if_false, if_true]
        rw [e1, o1]
      · simp only [up_ap, upA_ap, Nat.reduceEqDiff, false_and, true_and, and_true, and_false, and_self, if_false, if_true]
        rw [if_pos p, e2, o3]
      · simp only [up_ap, upA_ap, Nat.reduceEqDiff, false_and, true_and, and_true, and_false, and_self, if_false, if_true]
        exact tail
    · refine ⟨b ||| 2 ^ k, a, o2, ha, ?_, ?_, ?_⟩
      · simp only [up_ap, upA_ap, Nat.reduceEqDiff, false_and, true_and, and_true, and_false, and_self, if_false, if_true]
        rw [e1, o1]
      · simp only [up_ap, upA_ap, Nat.reduceEqDiff, false_and, true_and, and_true, and_false, and_self, if_false, if_true]
        rw [if_neg p, e2, or0 ha]
      · simp only [up_ap, upA_ap, Nat.reduceEqDiff, false_and, true_and, and_true, and_false, and_self, if_false, if_true]
        exact tail
theorem MT_pick {s n : Nat} (h : MT men inns fleet lo m) : MT men inns fleet lo (pickF men s n m) := MT_keep h (fun j _ => by rw [pick_row (by omega)]) (pick_row (by omega))
theorem sail_row {s k a : Nat} {y day : Int32} (h : a ≠ 73 ∧ a ≠ 86 ∧ a ≠ 88 ∧ a ≠ 89 ∧ a ≠ 93) : sailF s y day k m a = m a := by
  unfold sailF
  split
  · rw [up_row (by omega), up_row (by omega), up_row (by omega), up_row (by omega), up_row (by omega)]
  · rfl
theorem MT_sail {s k : Nat} {y day : Int32} (h : MT men inns fleet lo m) : MT men inns fleet lo (sailF s y day k m) := by
  unfold sailF
  split
  · exact MT_up (MT_up (MT_up (MT_up (MT_up h (by omega) (by omega)) (by omega) (by omega)) (by omega) (by omega)) (by omega) (by omega)) (by omega) (by omega)
  · exact h
theorem sail_88 {s k j : Nat} {y day : Int32} (h : j ≠ k) : sailF s y day k m 88 j = m 88 j := by
  unfold sailF
  split
  · simp only [up_ap, upA_ap, Nat.reduceEqDiff, false_and, true_and, and_true, and_false, and_self, if_false, if_true]
    rw [if_neg h]
  · rfl
/-- those who sail are in houses from j on -/
def InS (men s j : Nat) (m : AMem) : Prop := ∃ b, b < 256 ∧ m 92 s = nI b ∧ ∀ k, j ≤ k → k < men → b.testBit k = true → nI 0 ≤ m 88 k ∧ m 88 k < nI 8
set_option maxHeartbeats 1000000 in
theorem s_mComes (h : MT men inns fleet lo m) {s nd : Nat} {day : Int32} (hs : s < 6) (hnd : m 83 s = nI nd) (hd : nd < 100) (hI : InH men s m) : T S (f + 3) 119 0 [some (.ref 73), some (.int (nI s)), some (.int day), none, none, none] [] m Rt = Rt none (mComesM men s day m) := by
  have h8 := h.2.1.1
  have hB6 : inB (nI s) 6 = true := inB8 hs (by decide)
  have hB7 : inB (nI s) 7 = true := inB8 (by omega) (by decide)
  have hcs : (nI s).toNatClampNeg = s := nI_cl8 (by omega)
  have hcd : (m 83 s).toNatClampNeg = nd := by rw [hnd]; exact nI_cl8 (by omega)
  have a1 : T S (f + 3) 119 0 [some (.ref 73), some (.int (nI s)), some (.int day), none, none, none] [] m Rt = T S (f + 3) 119 33 [some (.ref 73), some (.int (nI s)), some (.int day), some (.int (byM s m)), some (.int (nI 0)), none] [] m Rt := by
    unfold byM
    by_cases q : m 84 s < m 73 15
    · simp only [u119_0, u119_2, u119_3, u119_6, u119_7, u119_8, u119_9, u119_12, u119_15, u119_16, u119_19, u119_20, u119_21, u119_24, u119_25, u119_28, u119_29, u119_30, u119_31, u119_35, u119_36, u119_39, u119_40, u119_41, u119_44, u119_45, u119_46, u119_49, u119_51, u119_53, u119_54, u119_57, u119_58, u119_61, u119_62, u119_63, u119_64, u119_65, u119_67, u119_68, u119_69, u119_70, u119_71, u119_74, u119_75, u119_76, u119_77, u119_79, u119_80, u119_83, u119_84, u119_85, u119_88, u119_89, u119_92, u119_94, u119_95, u119_96, u119_99, u119_100, u119_102, u119_103, u119_106, u119_107, u119_108, u119_109, u119_112, u119_115, u119_116, u119_119, u119_120, u119_121, u119_124, u119_125, u119_126, u119_127, u119_130, u119_131, u119_132, u119_133, u119_134, u119_135, u119_136, u119_137, u119_141, u119_142, u119_145, u119_148, u119_149, u119_152, u119_153, u119_154, u119_156, u119_159, u119_162, u119_163, u119_166, u119_167, u119_170, u119_172, u119_173, u119_174, u119_175, u119_176, u119_177, u119_178, u119_179, u119_182, u119_184, u119_186, u119_187, u119_188, u119_189, u119_190, u119_193, u119_195, u119_196, u119_197, u119_198, u119_201, u119_203, u119_204, u119_205, u119_206, u119_208, u119_211, u119_214, u119_217, hB7, hcs, true_and, le_n (m 73 15) (m 84 s), q, not_true, if_false, if_true]
    · simp only [u119_0, u119_2, u119_3, u119_6, u119_7, u119_8, u119_9, u119_12, u119_15, u119_16, u119_19, u119_20, u119_21, u119_24, u119_25, u119_28, u119_29, u119_30, u119_31, u119_35, u119_36, u119_39, u119_40, u119_41, u119_44, u119_45, u119_46, u119_49, u119_51, u119_53, u119_54, u119_57, u119_58, u119_61, u119_62, u119_63, u119_64, u119_65, u119_67, u119_68, u119_69, u119_70, u119_71, u119_74, u119_75, u119_76, u119_77, u119_79, u119_80, u119_83, u119_84, u119_85, u119_88, u119_89, u119_92, u119_94, u119_95, u119_96, u119_99, u119_100, u119_102, u119_103, u119_106, u119_107, u119_108, u119_109, u119_112, u119_115, u119_116, u119_119, u119_120, u119_121, u119_124, u119_125, u119_126, u119_127, u119_130, u119_131, u119_132, u119_133, u119_134, u119_135, u119_136, u119_137, u119_141, u119_142, u119_145, u119_148, u119_149, u119_152, u119_153, u119_154, u119_156, u119_159, u119_162, u119_163, u119_166, u119_167, u119_170, u119_172, u119_173, u119_174, u119_175, u119_176, u119_177, u119_178, u119_179, u119_182, u119_184, u119_186, u119_187, u119_188, u119_189, u119_190, u119_193, u119_195, u119_196, u119_197, u119_198, u119_201, u119_203, u119_204, u119_205, u119_206, u119_208, u119_211, u119_214, u119_217, hB7, hcs, true_and, le_n (m 73 15) (m 84 s), q, not_false_iff, if_false, if_true]
  obtain ⟨l, e⟩ := it_runL (fun n (m : AMem) (l : Option Value) => T S (f + 3) 119 33 [some (.ref 73), some (.int (nI s)), some (.int day), some (.int (byM s m)), some (.int (nI n)), l] [] m Rt) (pickF men s) (fun _ m => MT men inns fleet lo m ∧ m 83 s = nI nd ∧ InH men s m) nd (fun n _ m hm => ⟨MT_pick hm.1, by rw [pick_row (by omega)]; exact hm.2.1, pick_in h8 hm.2.2⟩) (fun n hn m l hm => by
    obtain ⟨g1, g2, g3⟩ := hm
    have hle : (nI nd ≤ nI n) = False := by rw [nI_le8 (by omega) (by omega)]; exact eq_false (by omega)
    have eN := fun Rt => s_mNext (S := S) (f := f) (m := m) (Rt := Rt) g1.1.1 h8 hs
    have hby : byM s (pickF men s n m) = byM s m := by
      unfold byM
      rw [pick_row (by omega), pick_row (by omega)]
    rw [hby]
    unfold pickF
    cases q : nextM men s m with
    | none =>
      rw [q] at eN
      refine ⟨some (.int (-1)), u119_33.trans ?_⟩
      simp only [u119_0, u119_2, u119_3, u119_6, u119_7, u119_8, u119_9, u119_12, u119_15, u119_16, u119_19, u119_20, u119_21, u119_24, u119_25, u119_28, u119_29, u119_30, u119_31, u119_35, u119_36, u119_39, u119_40, u119_41, u119_44, u119_45, u119_46, u119_49, u119_51, u119_53, u119_54, u119_57, u119_58, u119_61, u119_62, u119_63, u119_64, u119_65, u119_67, u119_68, u119_69, u119_70, u119_71, u119_74, u119_75, u119_76, u119_77, u119_79, u119_80, u119_83, u119_84, u119_85, u119_88, u119_89, u119_92, u119_94, u119_95, u119_96, u119_99, u119_100, u119_102, u119_103, u119_106, u119_107, u119_108, u119_109, u119_112, u119_115, u119_116, u119_119, u119_120, u119_121, u119_124, u119_125, u119_126, u119_127, u119_130, u119_131, u119_132, u119_133, u119_134, u119_135, u119_136, u119_137, u119_141, u119_142, u119_145, u119_148, u119_149, u119_152, u119_153, u119_154, u119_156, u119_159, u119_162, u119_163, u119_166, u119_167, u119_170, u119_172, u119_173, u119_174, u119_175, u119_176, u119_177, u119_178, u119_179, u119_182, u119_184, u119_186, u119_187, u119_188, u119_189, u119_190, u119_193, u119_195, u119_196, u119_197, u119_198, u119_201, u119_203, u119_204, u119_205, u119_206, u119_208, u119_211, u119_214, u119_217, hB7, hcs, true_and, g2, hle, if_false, eN, optI_none, pu_some, pu_none, if_true, nI_add]
    | some k =>
      rw [q] at eN
      have hk := next_lt q
      have hk1 := nI_ne1 (k := k) (by omega)
      have hBk : inB (nI k) 9 = true := inB8 (by omega) (by decide)
      have hck : (nI k).toNatClampNeg = k := nI_cl8 (by omega)
      refine ⟨some (.int (nI k)), u119_33.trans ?_⟩
      by_cases p1 : nI n < m 85 s
      · by_cases p2 : nI 1 < m 76 k
        · simp only [u119_0, u119_2, u119_3, u119_6, u119_7, u119_8, u119_9, u119_12, u119_15, u119_16, u119_19, u119_20, u119_21, u119_24, u119_25, u119_28, u119_29, u119_30, u119_31, u119_35, u119_36, u119_39, u119_40, u119_41, u119_44, u119_45, u119_46, u119_49, u119_51, u119_53, u119_54, u119_57, u119_58, u119_61, u119_62, u119_63, u119_64, u119_65, u119_67, u119_68, u119_69, u119_70, u119_71, u119_74, u119_75, u119_76, u119_77, u119_79, u119_80, u119_83, u119_84, u119_85, u119_88, u119_89, u119_92, u119_94, u119_95, u119_96, u119_99, u119_100, u119_102, u119_103, u119_106, u119_107, u119_108, u119_109, u119_112, u119_115, u119_116, u119_119, u119_120, u119_121, u119_124, u119_125, u119_126, u119_127, u119_130, u119_131, u119_132, u119_133, u119_134, u119_135, u119_136, u119_137, u119_141, u119_142, u119_145, u119_148, u119_149, u119_152, u119_153, u119_154, u119_156, u119_159, u119_162, u119_163, u119_166, u119_167, u119_170, u119_172, u119_173, u119_174, u119_175, u119_176, u119_177, u119_178, u119_179, u119_182, u119_184, u119_186, u119_187, u119_188, u119_189, u119_190, u119_193, u119_195, u119_196, u119_197, u119_198, u119_201, u119_203, u119_204, u119_205, u119_206, u119_208, u119_211, u119_214, u119_217, hB6, hB7, hcs, true_and, g2, hle, if_false, eN, optI_some, pu_some, pu_none, if_true, nI_add, hk1, hBk, hck, up_ap, upA_ap, Nat.reduceEqDiff, false_and, true_and, and_true, and_false, and_self, if_false, if_true, le_n (m 85 s) (nI n), p1, not_true, le_n (m 76 k) (nI 1), p2]
        · simp only [u119_0, u119_2, u119_3, u119_6, u119_7, u119_8, u119_9, u119_12, u119_15, u119_16, u119_19, u119_20, u119_21, u119_24, u119_25, u119_28, u119_29, u119_30, u119_31, u119_35, u119_36, u119_39, u119_40, u119_41, u119_44, u119_45, u119_46, u119_49, u119_51, u119_53, u119_54, u119_57, u119_58, u119_61, u119_62, u119_63, u119_64, u119_65, u119_67, u119_68, u119_69, u119_70, u119_71, u119_74, u119_75, u119_76, u119_77, u119_79, u119_80, u119_83, u119_84, u119_85, u119_88, u119_89, u119_92, u119_94, u119_95, u119_96, u119_99, u119_100, u119_102, u119_103, u119_106, u119_107, u119_108, u119_109, u119_112, u119_115, u119_116, u119_119, u119_120, u119_121, u119_124, u119_125, u119_126, u119_127, u119_130, u119_131, u119_132, u119_133, u119_134, u119_135, u119_136, u119_137, u119_141, u119_142, u119_145, u119_148, u119_149, u119_152, u119_153, u119_154, u119_156, u119_159, u119_162, u119_163, u119_166, u119_167, u119_170, u119_172, u119_173, u119_174, u119_175, u119_176, u119_177, u119_178, u119_179, u119_182, u119_184, u119_186, u119_187, u119_188, u119_189, u119_190, u119_193, u119_195, u119_196, u119_197, u119_198, u119_201, u119_203, u119_204, u119_205, u119_206, u119_208, u119_211, u119_214, u119_217, hB6, hB7, hcs, true_and, g2, hle, if_false, eN, optI_some, pu_some, pu_none, if_true, nI_add, hk1, hBk, hck, up_ap, upA_ap, Nat.reduceEqDiff, false_and, true_and, and_true, and_false, and_self, if_false, if_true, le_n (m 85 s) (nI n), p1, not_true, le_n (m 76 k) (nI 1), p2, not_false_iff]
      · simp only [u119_0, u119_2, u119_3, u119_6, u119_7, u119_8, u119_9, u119_12, u119_15, u119_16, u119_19, u119_20, u119_21, u119_24, u119_25, u119_28, u119_29, u119_30, u119_31, u119_35, u119_36, u119_39, u119_40, u119_41, u119_44, u119_45, u119_46, u119_49, u119_51, u119_53, u119_54, u119_57, u119_58, u119_61, u119_62, u119_63, u119_64, u119_65, u119_67, u119_68, u119_69, u119_70, u119_71, u119_74, u119_75, u119_76, u119_77, u119_79, u119_80, u119_83, u119_84, u119_85, u119_88, u119_89, u119_92, u119_94, u119_95, u119_96, u119_99, u119_100, u119_102, u119_103, u119_106, u119_107, u119_108, u119_109, u119_112, u119_115, u119_116, u119_119, u119_120, u119_121, u119_124, u119_125, u119_126, u119_127, u119_130, u119_131, u119_132, u119_133, u119_134, u119_135, u119_136, u119_137, u119_141, u119_142, u119_145, u119_148, u119_149, u119_152, u119_153, u119_154, u119_156, u119_159, u119_162, u119_163, u119_166, u119_167, u119_170, u119_172, u119_173, u119_174, u119_175, u119_176, u119_177, u119_178, u119_179, u119_182, u119_184, u119_186, u119_187, u119_188, u119_189, u119_190, u119_193, u119_195, u119_196, u119_197, u119_198, u119_201, u119_203, u119_204, u119_205, u119_206, u119_208, u119_211, u119_214, u119_217, hB6, hB7, hcs, true_and, g2, hle, if_false, eN, optI_some, pu_some, pu_none, if_true, nI_add, hk1, hBk, hck, up_ap, upA_ap, Nat.reduceEqDiff, false_and, true_and, and_true, and_false, and_self, if_false, if_true, le_n (m 85 s) (nI n), p1, not_false_iff]) m none ⟨h, hnd, hI⟩
  have hJ := it_I (pickF men s) (fun _ m => MT men inns fleet lo m ∧ m 83 s = nI nd ∧ InH men s m) nd (fun n _ m hm => ⟨MT_pick hm.1, by rw [pick_row (by omega)]; exact hm.2.1, pick_in h8 hm.2.2⟩) m ⟨h, hnd, hI⟩ nd (Nat.le_refl _)
  have hbyE : byM s (it nd (pickF men s) m) = byM s m := by
    unfold byM
    rw [it_row (fun k m => pick_row (by omega)), it_row (fun k m => pick_row (by omega))]
  unfold mComesM cMid
  rw [hcd]
  rw [hbyE] at e
  generalize it nd (pickF men s) m = M at e hJ
  generalize byM s m = y at a1 e
  obtain ⟨g1, g2, b, a, hb, ha, e1, e2, h3⟩ := hJ
  obtain ⟨s1, s2⟩ := less8 ha hb
  have hM2 : MT men inns fleet lo (up M 92 s (M 90 s &&& (M 91 s ^^^ -1))) := MT_up g1 (by omega) (by omega)
  have hS : InS men s 0 (up M 92 s (M 90 s &&& (M 91 s ^^^ -1))) := by
    refine ⟨lessN b a, s2, ?_, fun k _ hk ht => ?_⟩
    · simp only [up_ap, upA_ap, Nat.reduceEqDiff, false_and, true_and, and_true, and_false, and_self, if_false, if_true]
      rw [e1, e2, s1]
    · rw [less_bit (by omega), Bool.and_eq_true] at ht
      simp only [up_ap, upA_ap, Nat.reduceEqDiff, false_and, true_and, and_true, and_false, and_self, if_false, if_true]
      exact (h3 k (by omega) ht.1).2
  have nxt : ∀ k, k < men → ∀ m, MT men inns fleet lo m ∧ InS men s k m → MT men inns fleet lo (sailF s y day k m) ∧ InS men s (k + 1) (sailF s y day k m) := by
    intro k hk m hm
    obtain ⟨g1, b, hb, e1, h3⟩ := hm
    refine ⟨MT_sail g1, b, hb, by rw [sail_row (by omega)]; exact e1, fun j hj1 hj2 ht => ?_⟩
    rw [sail_88 (by omega)]
    exact h3 j (by omega) hj2 ht
  have eS := it_run (fun k (m : AMem) => T S (f + 3) 119 139 [some (.ref 73), some (.int (nI s)), some (.int day), some (.int y), some (.int (nI k)), l] [] m Rt) (sailF s y day) (fun k m => MT men inns fleet lo m ∧ InS men s k m) men nxt (fun k hk m hm => by
    obtain ⟨g1, b, hb, e1, h3⟩ := hm
    have hle : (nI men ≤ nI k) = False := by rw [nI_le8 (by omega) (by omega)]; exact eq_false (by omega)
    have hBk : inB (nI k) 8 = true := inB8 (by omega) (by decide)
    have hck : (nI k).toNatClampNeg = k := nI_cl8 (by omega)
    refine u119_139.trans ?_
    unfold sailF
    by_cases q : bitI (m 92 s) k = true
    · have hh : nI 0 ≤ m 88 k ∧ m 88 k < nI 8 := by
        refine h3 k (Nat.le_refl _) hk ?_
        rw [e1, bitI_nI b hb k (by omega)] at q
        exact q
      have hBh := inB_P hh (by decide)
      simp only [u119_0, u119_2, u119_3, u119_6, u119_7, u119_8, u119_9, u119_12, u119_15, u119_16, u119_19, u119_20, u119_21, u119_24, u119_25, u119_28, u119_29, u119_30, u119_31, u119_35, u119_36, u119_39, u119_40, u119_41, u119_44, u119_45, u119_46, u119_49, u119_51, u119_53, u119_54, u119_57, u119_58, u119_61, u119_62, u119_63, u119_64, u119_65, u119_67, u119_68, u119_69, u119_70, u119_71, u119_74, u119_75, u119_76, u119_77, u119_79, u119_80, u119_83, u119_84, u119_85, u119_88, u119_89, u119_92, u119_94, u119_95, u119_96, u119_99, u119_100, u119_102, u119_103, u119_106, u119_107, u119_108, u119_109, u119_112, u119_115, u119_116, u119_119, u119_120, u119_121, u119_124, u119_125, u119_126, u119_127, u119_130, u119_131, u119_132, u119_133, u119_134, u119_135, u119_136, u119_137, u119_141, u119_142, u119_145, u119_148, u119_149, u119_152, u119_153, u119_154, u119_156, u119_159, u119_162, u119_163, u119_166, u119_167, u119_170, u119_172, u119_173, u119_174, u119_175, u119_176, u119_177, u119_178, u119_179, u119_182, u119_184, u119_186, u119_187, u119_188, u119_189, u119_190, u119_193, u119_195, u119_196, u119_197, u119_198, u119_201, u119_203, u119_204, u119_205, u119_206, u119_208, u119_211, u119_214, u119_217, g1.1.1, hle, if_false, hB6, hcs, true_and, s_mIsIn, pu_some, pu_none, b01_e0, bitI_P, q, not_true, if_true, hBk, hck, hBh, up_ap, upA_ap, Nat.reduceEqDiff, false_and, true_and, and_true, and_false, and_self, if_false, if_true, nI_add]
    · simp only [u119_0, u119_2, u119_3, u119_6, u119_7, u119_8, u119_9, u119_12, u119_15, u119_16, u119_19, u119_20, u119_21, u119_24, u119_25, u119_28, u119_29, u119_30, u119_31, u119_35, u119_36, u119_39, u119_40, u119_41, u119_44, u119_45, u119_46, u119_49, u119_51, u119_53, u119_54, u119_57, u119_58, u119_61, u119_62, u119_63, u119_64, u119_65, u119_67, u119_68, u119_69, u119_70, u119_71, u119_74, u119_75, u119_76, u119_77, u119_79, u119_80, u119_83, u119_84, u119_85, u119_88, u119_89, u119_92, u119_94, u119_95, u119_96, u119_99, u119_100, u119_102, u119_103, u119_106, u119_107, u119_108, u119_109, u119_112, u119_115, u119_116, u119_119, u119_120, u119_121, u119_124, u119_125, u119_126, u119_127, u119_130, u119_131, u119_132, u119_133, u119_134, u119_135, u119_136, u119_137, u119_141, u119_142, u119_145, u119_148, u119_149, u119_152, u119_153, u119_154, u119_156, u119_159, u119_162, u119_163, u119_166, u119_167, u119_170, u119_172, u119_173, u119_174, u119_175, u119_176, u119_177, u119_178, u119_179, u119_182, u119_184, u119_186, u119_187, u119_188, u119_189, u119_190, u119_193, u119_195, u119_196, u119_197, u119_198, u119_201, u119_203, u119_204, u119_205, u119_206, u119_208, u119_211, u119_214, u119_217, g1.1.1, hle, if_false, hB6, hcs, true_and, s_mIsIn, pu_some, pu_none, b01_e0, bitI_P, q, Bool.false_eq_true, not_false_iff, if_true, nI_add]) _ ⟨hM2, hS⟩
  have hE := it_I (sailF s y day) (fun k m => MT men inns fleet lo m ∧ InS men s k m) men nxt _ ⟨hM2, hS⟩ men (Nat.le_refl _)
  refine a1.trans (e.trans (u119_33.trans ?_))
  have hself : (nI nd ≤ nI nd) = True := by rw [nI_le8 (by omega) (by omega)]; exact eq_true (Nat.le_refl _)
  simp only [u119_0, u119_2, u119_3, u119_6, u119_7, u119_8, u119_9, u119_12, u119_15, u119_16, u119_19, u119_20, u119_21, u119_24, u119_25, u119_28, u119_29, u119_30, u119_31, u119_35, u119_36, u119_39, u119_40, u119_41, u119_44, u119_45, u119_46, u119_49, u119_51, u119_53, u119_54, u119_57, u119_58, u119_61, u119_62, u119_63, u119_64, u119_65, u119_67, u119_68, u119_69, u119_70, u119_71, u119_74, u119_75, u119_76, u119_77, u119_79, u119_80, u119_83, u119_84, u119_85, u119_88, u119_89, u119_92, u119_94, u119_95, u119_96, u119_99, u119_100, u119_102, u119_103, u119_106, u119_107, u119_108, u119_109, u119_112, u119_115, u119_116, u119_119, u119_120, u119_121, u119_124, u119_125, u119_126, u119_127, u119_130, u119_131, u119_132, u119_133, u119_134, u119_135, u119_136, u119_137, u119_141, u119_142, u119_145, u119_148, u119_149, u119_152, u119_153, u119_154, u119_156, u119_159, u119_162, u119_163, u119_166, u119_167, u119_170, u119_172, u119_173, u119_174, u119_175, u119_176, u119_177, u119_178, u119_179, u119_182, u119_184, u119_186, u119_187, u119_188, u119_189, u119_190, u119_193, u119_195, u119_196, u119_197, u119_198, u119_201, u119_203, u119_204, u119_205, u119_206, u119_208, u119_211, u119_214, u119_217, hB6, hB7, hcs, true_and, g2, hself, if_true]
  refine eS.trans (u119_139.trans ?_)
  simp (disch := omega) only [u119_0, u119_2, u119_3, u119_6, u119_7, u119_8, u119_9, u119_12, u119_15, u119_16, u119_19, u119_20, u119_21, u119_24, u119_25, u119_28, u119_29, u119_30, u119_31, u119_35, u119_36, u119_39, u119_40, u119_41, u119_44, u119_45, u119_46, u119_49, u119_51, u119_53, u119_54, u119_57, u119_58, u119_61, u119_62, u119_63, u119_64, u119_65, u119_67, u119_68, u119_69, u119_70, u119_71, u119_74, u119_75, u119_76, u119_77, u119_79, u119_80, u119_83, u119_84, u119_85, u119_88, u119_89, u119_92, u119_94, u119_95, u119_96, u119_99, u119_100, u119_102, u119_103, u119_106, u119_107, u119_108, u119_109, u119_112, u119_115, u119_116, u119_119, u119_120, u119_121, u119_124, u119_125, u119_126, u119_127, u119_130, u119_131, u119_132, u119_133, u119_134, u119_135, u119_136, u119_137, u119_141, u119_142, u119_145, u119_148, u119_149, u119_152, u119_153, u119_154, u119_156, u119_159, u119_162, u119_163, u119_166, u119_167, u119_170, u119_172, u119_173, u119_174, u119_175, u119_176, u119_177, u119_178, u119_179, u119_182, u119_184, u119_186, u119_187, u119_188, u119_189, u119_190, u119_193, u119_195, u119_196, u119_197, u119_198, u119_201, u119_203, u119_204, u119_205, u119_206, u119_208, u119_211, u119_214, u119_217, hE.1.1.1, nI_le8, Nat.le_refl, if_true]
end MCOMES
