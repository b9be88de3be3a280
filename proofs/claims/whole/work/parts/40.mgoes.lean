section MGOES
variable {S : AScr} {f : Nat} {m : AMem} {Rt : Option Value → AMem → Prop} {men inns fleet : Nat} {lo ti nd : Nat → Nat}
theorem comes_row {s a : Nat} {day : Int32} (h : a ≠ 73 ∧ (a < 86 ∨ a = 87 ∨ 93 < a)) : mComesM men s day m a = m a := by
  unfold mComesM cMid
  rw [it_row (fun k m => sail_row (by omega)), up_row (by omega), it_row (fun k m => pick_row (by omega))]
theorem it_cell {F : Nat → AMem → AMem} {a j : Nat} (h : ∀ k m, F k m a j = m a j) : ∀ (n : Nat) (m : AMem), it n F m a j = m a j := fun n m => it_at h m
theorem sail_73 {s k j : Nat} {y day : Int32} (h : j ≠ 24) : sailF s y day k m 73 j = m 73 j := by
  unfold sailF
  split
  · simp only [up_ap, upA_ap, Nat.reduceEqDiff, false_and, true_and, and_true, and_false, and_self, if_false, if_true]
    rw [if_neg h]
  · rfl
theorem comes_73 {s j : Nat} {day : Int32} (h : j ≠ 24) : mComesM men s day m 73 j = m 73 j := by
  unfold mComesM cMid
  rw [it_cell (fun k m => sail_73 h), up_row (by omega), it_row (fun k m => pick_row (by omega))]
theorem comes_9 {s a j : Nat} {day : Int32} (ha : a = 90 ∨ a = 91) (h : j ≠ s) : mComesM men s day m a j = m a j := by
  unfold mComesM cMid
  rw [it_row (fun k m => sail_row (by omega)), up_row (by omega), it_cell (fun k m => pick_at h)]
theorem MT_comes {s : Nat} {day : Int32} (h : MT men inns fleet lo m) : MT men inns fleet lo (mComesM men s day m) := MT_keep h (fun j _ => comes_73 (by omega)) (comes_row (by omega))
/-- when each ship sails, and how many it needs -/
def MD (fleet : Nat) (ti nd : Nat → Nat) (m : AMem) : Prop := ∀ s, s < fleet → (m 82 s = nI (ti s) ∧ ti s < 100) ∧ (m 83 s = nI (nd s) ∧ nd s < 100)
theorem MD_keep {m2 : AMem} (h : MD fleet ti nd m) (h1 : m2 82 = m 82) (h2 : m2 83 = m 83) : MD fleet ti nd m2 := by
  unfold MD
  rw [h1, h2]
  exact h
/-- no ship that is still to come has taken anybody -/
def Fresh (fleet : Nat) (ti : Nat → Nat) (d s0 : Nat) (m : AMem) : Prop := ∀ s, s < fleet → (d < ti s ∨ (ti s = d ∧ s0 ≤ s)) → m 90 s = nI 0 ∧ m 91 s = nI 0
def MA (men inns fleet : Nat) (lo ti nd : Nat → Nat) (d s0 : Nat) (m : AMem) : Prop := MT men inns fleet lo m ∧ MD fleet ti nd m ∧ Fresh fleet ti d s0 m
def shipG (men day s : Nat) (m : AMem) : AMem := if m 82 s = nI day ∧ ¬ bitI (m 73 16) s = true then mComesM men s (nI day) m else m
theorem shipG_row {day s a : Nat} (h : a ≠ 73 ∧ (a < 86 ∨ a = 87 ∨ 93 < a)) : shipG men day s m a = m a := by
  unfold shipG
  split
  · exact comes_row h
  · rfl
theorem shipG_73 {day s j : Nat} (h : j ≠ 24) : shipG men day s m 73 j = m 73 j := by
  unfold shipG
  split
  · exact comes_73 h
  · rfl
theorem shipG_MA {day s : Nat} (h : MA men inns fleet lo ti nd day s m) : MA men inns fleet lo ti nd day (s + 1) (shipG men day s m) := by
  refine ⟨MT_keep h.1 (fun j _ => shipG_73 (by omega)) (shipG_row (by omega)), MD_keep h.2.1 (shipG_row (by omega)) (shipG_row (by omega)), fun i hi hc => ?_⟩
  have := h.2.2 i hi (by omega)
  by_cases hne : i = s
  · subst hne
    have t1 := (h.2.1 i hi).1
    have hn : ¬ (m 82 i = nI day ∧ ¬ bitI (m 73 16) i = true) := by
      intro z
      have e := t1.1.symm.trans z.1
      rw [nI_eq8 (by omega) (by omega)] at e
      omega
    unfold shipG
    rw [if_neg hn]
    exact this
  · unfold shipG
    split
    · rw [comes_9 (by omega) hne, comes_9 (by omega) hne]
      exact this
    · exact this
def costG (k : Nat) (m : AMem) : Int32 := if m 76 k = nI 1 then nI 2 * m 80 (m 88 k).toNatClampNeg else if m 76 k = nI 3 then nI 0 else m 80 (m 88 k).toNatClampNeg + m 77 k
def paidG (k : Nat) (m : AMem) : Int32 := if costG k m < m 87 k then costG k m else m 87 k
def payG (k : Nat) (m : AMem) : AMem := if nI 0 ≤ m 88 k ∧ m 88 k < nI 8 then up (up (up m 87 k (m 87 k - paidG k m)) 89 (m 88 k).toNatClampNeg (m 89 (m 88 k).toNatClampNeg + paidG k m)) 86 k (m 86 k + (costG k m - paidG k m)) else m
theorem payG_row {k a : Nat} (h : a ≠ 86 ∧ a ≠ 87 ∧ a ≠ 89) : payG k m a = m a := by
  unfold payG
  split
  · rw [up_row (by omega), up_row (by omega), up_row (by omega)]
  · rfl
def goesM (men fleet day : Nat) (m : AMem) : AMem := it men payG (it fleet (shipG men day) m)
theorem goes_row {day a : Nat} (h : a ≠ 73 ∧ (a < 86 ∨ 93 < a)) : goesM men fleet day m a = m a := by
  unfold goesM
  rw [it_row (fun k m => payG_row (by omega)), it_row (fun k m => shipG_row (by omega))]
theorem goes_73 {day j : Nat} (h : j ≠ 24) : goesM men fleet day m 73 j = m 73 j := by
  unfold goesM
  rw [it_row (fun k m => payG_row (by omega)), it_cell (fun k m => shipG_73 h)]
theorem ships_MA {day : Nat} (h : MA men inns fleet lo ti nd day 0 m) : MA men inns fleet lo ti nd day fleet (it fleet (shipG men day) m) := it_I (shipG men day) (fun s m => MA men inns fleet lo ti nd day s m) fleet (fun s _ m hm => shipG_MA hm) m h fleet (Nat.le_refl _)
theorem goes_MA {day : Nat} (h : MA men inns fleet lo ti nd day 0 m) : MA men inns fleet lo ti nd (day + 1) 0 (goesM men fleet day m) := by
  have h2 := ships_MA h
  unfold goesM
  refine ⟨MT_keep h2.1 (fun j _ => by rw [it_row (fun k m => payG_row (by omega))]) (it_row (fun k m => payG_row (by omega)) _ _), MD_keep h2.2.1 (it_row (fun k m => payG_row (by omega)) _ _) (it_row (fun k m => payG_row (by omega)) _ _), fun s hs hc => ?_⟩
  rw [it_row (fun k m => payG_row (by omega)), it_row (fun k m => payG_row (by omega))]
  exact h2.2.2 s hs (by omega)
set_option maxHeartbeats 1000000 in
theorem s_mGoes {day : Nat} (hd : day < 100) (h : MA men inns fleet lo ti nd day 0 m) : T S (f + 4) 117 0 [some (.ref 73), some (.int (nI day)), none, none, none, none] [] m Rt = Rt none (goesM men fleet day m) := by
  have h8 := h.1.2.1.1
  have hf := h.1.2.1.2.2
  have e1 := it_run (fun s (m : AMem) => T S (f + 4) 117 2 [some (.ref 73), some (.int (nI day)), some (.int (nI s)), none, none, none] [] m Rt) (shipG men day) (fun s m => MA men inns fleet lo ti nd day s m) fleet (fun s _ m hm => shipG_MA hm) (fun s hs m hm => by
    have hle : (nI fleet ≤ nI s) = False := by rw [nI_le8 (by omega) (by omega)]; exact eq_false (by omega)
    have hB7 : inB (nI s) 7 = true := inB8 (by omega) (by decide)
    have hcs : (nI s).toNatClampNeg = s := nI_cl8 (by omega)
    have hs6 : s < 6 := by omega
    obtain ⟨⟨t1, t2⟩, d1, d2⟩ := hm.2.1 s hs
    refine u117_2.trans ?_
    unfold shipG
    by_cases q1 : m 82 s = nI day
    · by_cases q2 : bitI (m 73 16) s = true
      · simp only [u117_0, u117_1, u117_3, u117_4, u117_7, u117_10, u117_11, u117_14, u117_15, u117_16, u117_17, u117_20, u117_21, u117_24, u117_25, u117_28, u117_31, u117_32, u117_33, u117_34, u117_37, u117_40, u117_43, u117_44, u117_46, u117_47, u117_50, u117_53, u117_54, u117_57, u117_58, u117_59, u117_60, u117_62, u117_65, u117_68, u117_69, u117_72, u117_73, u117_76, u117_77, u117_78, u117_79, u117_80, u117_81, u117_84, u117_85, u117_86, u117_87, u117_90, u117_91, u117_92, u117_93, u117_96, u117_97, u117_100, u117_101, u117_102, u117_103, u117_106, u117_107, u117_110, u117_111, u117_112, u117_115, u117_116, u117_117, u117_118, u117_120, u117_122, u117_123, u117_126, u117_127, u117_128, u117_131, u117_133, u117_136, u117_137, u117_140, u117_141, u117_142, u117_144, u117_145, u117_148, u117_149, u117_150, u117_151, u117_153, u117_154, u117_155, u117_156, u117_159, u117_160, u117_163, u117_164, u117_165, u117_166, u117_167, u117_169, u117_170, u117_171, u117_172, u117_175, u117_176, u117_177, u117_178, u117_180, u117_182, u117_183, u117_184, u117_185, u117_188, u117_191, hm.1.1.2.2, hle, if_false, hB7, hcs, true_and, q1, if_true, s_mIsIn, pu_some, pu_none, b01_e0, bitI_P, q2, not_true, and_false, nI_add]
      · have ht : ti s = day := by
          have := q1.symm.trans t1
          rw [nI_eq8 (by omega) (by omega)] at this
          exact this.symm
        have fr := hm.2.2 s hs (by omega)
        have hI : InH men s m := ⟨0, 0, by decide, by decide, fr.1, fr.2, fun k _ hb => by rw [Nat.zero_testBit] at hb; cases hb⟩
        simp only [u117_0, u117_1, u117_3, u117_4, u117_7, u117_10, u117_11, u117_14, u117_15, u117_16, u117_17, u117_20, u117_21, u117_24, u117_25, u117_28, u117_31, u117_32, u117_33, u117_34, u117_37, u117_40, u117_43, u117_44, u117_46, u117_47, u117_50, u117_53, u117_54, u117_57, u117_58, u117_59, u117_60, u117_62, u117_65, u117_68, u117_69, u117_72, u117_73, u117_76, u117_77, u117_78, u117_79, u117_80, u117_81, u117_84, u117_85, u117_86, u117_87, u117_90, u117_91, u117_92, u117_93, u117_96, u117_97, u117_100, u117_101, u117_102, u117_103, u117_106, u117_107, u117_110, u117_111, u117_112, u117_115, u117_116, u117_117, u117_118, u117_120, u117_122, u117_123, u117_126, u117_127, u117_128, u117_131, u117_133, u117_136, u117_137, u117_140, u117_141, u117_142, u117_144, u117_145, u117_148, u117_149, u117_150, u117_151, u117_153, u117_154, u117_155, u117_156, u117_159, u117_160, u117_163, u117_164, u117_165, u117_166, u117_167, u117_169, u117_170, u117_171, u117_172, u117_175, u117_176, u117_177, u117_178, u117_180, u117_182, u117_183, u117_184, u117_185, u117_188, u117_191, hm.1.1.2.2, hle, if_false, hB7, hcs, true_and, q1, if_true, s_mIsIn, pu_some, pu_none, b01_e0, bitI_P, q2, Bool.false_eq_true, not_false_iff, and_self, s_mComes hm.1 hs6 d1 d2 hI, nI_add]
    · simp only [u117_0, u117_1, u117_3, u117_4, u117_7, u117_10, u117_11, u117_14, u117_15, u117_16, u117_17, u117_20, u117_21, u117_24, u117_25, u117_28, u117_31, u117_32, u117_33, u117_34, u117_37, u117_40, u117_43, u117_44, u117_46, u117_47, u117_50, u117_53, u117_54, u117_57, u117_58, u117_59, u117_60, u117_62, u117_65, u117_68, u117_69, u117_72, u117_73, u117_76, u117_77, u117_78, u117_79, u117_80, u117_81, u117_84, u117_85, u117_86, u117_87, u117_90, u117_91, u117_92, u117_93, u117_96, u117_97, u117_100, u117_101, u117_102, u117_103, u117_106, u117_107, u117_110, u117_111, u117_112, u117_115, u117_116, u117_117, u117_118, u117_120, u117_122, u117_123, u117_126, u117_127, u117_128, u117_131, u117_133, u117_136, u117_137, u117_140, u117_141, u117_142, u117_144, u117_145, u117_148, u117_149, u117_150, u117_151, u117_153, u117_154, u117_155, u117_156, u117_159, u117_160, u117_163, u117_164, u117_165, u117_166, u117_167, u117_169, u117_170, u117_171, u117_172, u117_175, u117_176, u117_177, u117_178, u117_180, u117_182, u117_183, u117_184, u117_185, u117_188, u117_191, hm.1.1.2.2, hle, if_false, hB7, hcs, true_and, q1, false_and, nI_add]) m h
  have hE := ships_MA h
  obtain ⟨l, e2⟩ := it_runL (fun k (m : AMem) (l : Option Value × Option Value × Option Value) => T S (f + 4) 117 45 [some (.ref 73), some (.int (nI day)), some (.int (nI k)), l.1, l.2.1, l.2.2] [] m Rt) payG (fun _ m => m 73 2 = nI men) men (fun k _ m hm => by rw [payG_row (by omega)]; exact hm) (fun k hk m l hm => by
    have hle : (nI men ≤ nI k) = False := by rw [nI_le8 (by omega) (by omega)]; exact eq_false (by omega)
    have hB8 : inB (nI k) 8 = true := inB8 (by omega) (by decide)
    have hB9 : inB (nI k) 9 = true := inB8 (by omega) (by decide)
    have hc : (nI k).toNatClampNeg = k := nI_cl8 (by omega)
    have e7 : (m 88 k ≤ nI 7) = (m 88 k < nI 8) := le_lt1 (by decide)
    unfold payG
    by_cases q : nI 0 ≤ m 88 k ∧ m 88 k < nI 8
    · obtain ⟨p, hp, hpe⟩ := P_nI q (by omega)
      have hBp : inB (nI p) 8 = true := inB8 hp (by decide)
      have hBp9 : inB (nI p) 9 = true := inB8 (by omega) (by decide)
      have hcp : (nI p).toNatClampNeg = p := nI_cl8 (by omega)
      have hq : (nI 0 ≤ nI p ∧ nI p < nI 8) = True := eq_true (by rw [← hpe]; exact q)
      rw [hpe] at e7
      have step : ∃ y3, T S (f + 4) 117 45 [some (.ref 73), some (.int (nI day)), some (.int (nI k)), l.1, l.2.1, l.2.2] [] m Rt = T S (f + 4) 117 120 [some (.ref 73), some (.int (nI day)), some (.int (nI k)), some (.int y3), some (.int (costG k m)), l.2.2] [] m Rt := by
        refine ⟨m 80 p, u117_45.trans ?_⟩
        unfold costG
        rw [hpe, hcp]
        by_cases c1 : m 76 k = nI 1
        · simp only [u117_0, u117_1, u117_3, u117_4, u117_7, u117_10, u117_11, u117_14, u117_15, u117_16, u117_17, u117_20, u117_21, u117_24, u117_25, u117_28, u117_31, u117_32, u117_33, u117_34, u117_37, u117_40, u117_43, u117_44, u117_46, u117_47, u117_50, u117_53, u117_54, u117_57, u117_58, u117_59, u117_60, u117_62, u117_65, u117_68, u117_69, u117_72, u117_73, u117_76, u117_77, u117_78, u117_79, u117_80, u117_81, u117_84, u117_85, u117_86, u117_87, u117_90, u117_91, u117_92, u117_93, u117_96, u117_97, u117_100, u117_101, u117_102, u117_103, u117_106, u117_107, u117_110, u117_111, u117_112, u117_115, u117_116, u117_117, u117_118, u117_122, u117_123, u117_126, u117_127, u117_128, u117_131, u117_133, u117_136, u117_137, u117_140, u117_141, u117_142, u117_144, u117_145, u117_148, u117_149, u117_150, u117_151, u117_153, u117_154, u117_155, u117_156, u117_159, u117_160, u117_163, u117_164, u117_165, u117_166, u117_167, u117_169, u117_170, u117_171, u117_172, u117_175, u117_176, u117_177, u117_178, u117_180, u117_182, u117_183, u117_184, u117_185, u117_188, u117_191, hm, hle, if_false, hB8, hB9, hc, true_and, hpe, s_mIn, pu_some, pu_none, e7, b01_e0, hq, not_true, hBp9, hcp, c1, if_true]
        · by_cases c3 : m 76 k = nI 3
          · simp only [u117_0, u117_1, u117_3, u117_4, u117_7, u117_10, u117_11, u117_14, u117_15, u117_16, u117_17, u117_20, u117_21, u117_24, u117_25, u117_28, u117_31, u117_32, u117_33, u117_34, u117_37, u117_40, u117_43, u117_44, u117_46, u117_47, u117_50, u117_53, u117_54, u117_57, u117_58, u117_59, u117_60, u117_62, u117_65, u117_68, u117_69, u117_72, u117_73, u117_76, u117_77, u117_78, u117_79, u117_80, u117_81, u117_84, u117_85, u117_86, u117_87, u117_90, u117_91, u117_92, u117_93, u117_96, u117_97, u117_100, u117_101, u117_102, u117_103, u117_106, u117_107, u117_110, u117_111, u117_112, u117_115, u117_116, u117_117, u117_118, u117_122, u117_123, u117_126, u117_127, u117_128, u117_131, u117_133, u117_136, u117_137, u117_140, u117_141, u117_142, u117_144, u117_145, u117_148, u117_149, u117_150, u117_151, u117_153, u117_154, u117_155, u117_156, u117_159, u117_160, u117_163, u117_164, u117_165, u117_166, u117_167, u117_169, u117_170, u117_171, u117_172, u117_175, u117_176, u117_177, u117_178, u117_180, u117_182, u117_183, u117_184, u117_185, u117_188, u117_191, hm, hle, if_false, hB8, hB9, hc, true_and, hpe, s_mIn, pu_some, pu_none, e7, b01_e0, hq, not_true, hBp9, hcp, c3, if_true, show ¬ nI 3 = nI 1 by decide]
          · simp only [u117_0, u117_1, u117_3, u117_4, u117_7, u117_10, u117_11, u117_14, u117_15, u117_16, u117_17, u117_20, u117_21, u117_24, u117_25, u117_28, u117_31, u117_32, u117_33, u117_34, u117_37, u117_40, u117_43, u117_44, u117_46, u117_47, u117_50, u117_53, u117_54, u117_57, u117_58, u117_59, u117_60, u117_62, u117_65, u117_68, u117_69, u117_72, u117_73, u117_76, u117_77, u117_78, u117_79, u117_80, u117_81, u117_84, u117_85, u117_86, u117_87, u117_90, u117_91, u117_92, u117_93, u117_96, u117_97, u117_100, u117_101, u117_102, u117_103, u117_106, u117_107, u117_110, u117_111, u117_112, u117_115, u117_116, u117_117, u117_118, u117_122, u117_123, u117_126, u117_127, u117_128, u117_131, u117_133, u117_136, u117_137, u117_140, u117_141, u117_142, u117_144, u117_145, u117_148, u117_149, u117_150, u117_151, u117_153, u117_154, u117_155, u117_156, u117_159, u117_160, u117_163, u117_164, u117_165, u117_166, u117_167, u117_169, u117_170, u117_171, u117_172, u117_175, u117_176, u117_177, u117_178, u117_180, u117_182, u117_183, u117_184, u117_185, u117_188, u117_191, hm, hle, if_false, hB8, hB9, hc, true_and, hpe, s_mIn, pu_some, pu_none, e7, b01_e0, hq, not_true, hBp9, hcp, c1, c3]
      obtain ⟨y3, step⟩ := step
      rw [if_pos q, hpe, hcp]
      refine ⟨(some (.int y3), some (.int (costG k m)), some (.int (paidG k m))), step.trans ?_⟩
      unfold paidG
      generalize costG k m = c
      by_cases r : c < m 87 k
      · simp only [u117_0, u117_1, u117_3, u117_4, u117_7, u117_10, u117_11, u117_14, u117_15, u117_16, u117_17, u117_20, u117_21, u117_24, u117_25, u117_28, u117_31, u117_32, u117_33, u117_34, u117_37, u117_40, u117_43, u117_44, u117_46, u117_47, u117_50, u117_53, u117_54, u117_57, u117_58, u117_59, u117_60, u117_62, u117_65, u117_68, u117_69, u117_72, u117_73, u117_76, u117_77, u117_78, u117_79, u117_80, u117_81, u117_84, u117_85, u117_86, u117_87, u117_90, u117_91, u117_92, u117_93, u117_96, u117_97, u117_100, u117_101, u117_102, u117_103, u117_106, u117_107, u117_110, u117_111, u117_112, u117_115, u117_116, u117_117, u117_118, u117_120, u117_122, u117_123, u117_126, u117_127, u117_128, u117_131, u117_133, u117_136, u117_137, u117_140, u117_141, u117_142, u117_144, u117_145, u117_148, u117_149, u117_150, u117_151, u117_153, u117_154, u117_155, u117_156, u117_159, u117_160, u117_163, u117_164, u117_165, u117_166, u117_167, u117_169, u117_170, u117_171, u117_172, u117_175, u117_176, u117_177, u117_178, u117_180, u117_182, u117_183, u117_184, u117_185, u117_188, u117_191, hB8, hc, true_and, le_n (m 87 k) c, r, not_true, if_false, if_true, up_ap, upA_ap, Nat.reduceEqDiff, false_and, true_and, and_true, and_false, and_self, if_false, if_true, hpe, hBp, hcp, nI_add]
      · simp only [u117_0, u117_1, u117_3, u117_4, u117_7, u117_10, u117_11, u117_14, u117_15, u117_16, u117_17, u117_20, u117_21, u117_24, u117_25, u117_28, u117_31, u117_32, u117_33, u117_34, u117_37, u117_40, u117_43, u117_44, u117_46, u117_47, u117_50, u117_53, u117_54, u117_57, u117_58, u117_59, u117_60, u117_62, u117_65, u117_68, u117_69, u117_72, u117_73, u117_76, u117_77, u117_78, u117_79, u117_80, u117_81, u117_84, u117_85, u117_86, u117_87, u117_90, u117_91, u117_92, u117_93, u117_96, u117_97, u117_100, u117_101, u117_102, u117_103, u117_106, u117_107, u117_110, u117_111, u117_112, u117_115, u117_116, u117_117, u117_118, u117_120, u117_122, u117_123, u117_126, u117_127, u117_128, u117_131, u117_133, u117_136, u117_137, u117_140, u117_141, u117_142, u117_144, u117_145, u117_148, u117_149, u117_150, u117_151, u117_153, u117_154, u117_155, u117_156, u117_159, u117_160, u117_163, u117_164, u117_165, u117_166, u117_167, u117_169, u117_170, u117_171, u117_172, u117_175, u117_176, u117_177, u117_178, u117_180, u117_182, u117_183, u117_184, u117_185, u117_188, u117_191, hB8, hc, true_and, le_n (m 87 k) c, r, not_false_iff, if_false, if_true, up_ap, upA_ap, Nat.reduceEqDiff, false_and, true_and, and_true, and_false, and_self, if_false, if_true, hpe, hBp, hcp, nI_add]
    · refine ⟨l, u117_45.trans ?_⟩
      rw [if_neg q]
      simp only [u117_0, u117_1, u117_3, u117_4, u117_7, u117_10, u117_11, u117_14, u117_15, u117_16, u117_17, u117_20, u117_21, u117_24, u117_25, u117_28, u117_31, u117_32, u117_33, u117_34, u117_37, u117_40, u117_43, u117_44, u117_46, u117_47, u117_50, u117_53, u117_54, u117_57, u117_58, u117_59, u117_60, u117_62, u117_65, u117_68, u117_69, u117_72, u117_73, u117_76, u117_77, u117_78, u117_79, u117_80, u117_81, u117_84, u117_85, u117_86, u117_87, u117_90, u117_91, u117_92, u117_93, u117_96, u117_97, u117_100, u117_101, u117_102, u117_103, u117_106, u117_107, u117_110, u117_111, u117_112, u117_115, u117_116, u117_117, u117_118, u117_120, u117_122, u117_123, u117_126, u117_127, u117_128, u117_131, u117_133, u117_136, u117_137, u117_140, u117_141, u117_142, u117_144, u117_145, u117_148, u117_149, u117_150, u117_151, u117_153, u117_154, u117_155, u117_156, u117_159, u117_160, u117_163, u117_164, u117_165, u117_166, u117_167, u117_169, u117_170, u117_171, u117_172, u117_175, u117_176, u117_177, u117_178, u117_180, u117_182, u117_183, u117_184, u117_185, u117_188, u117_191, hm, hle, if_false, hB8, hc, true_and, s_mIn, pu_some, pu_none, e7, b01_e0, q, not_false_iff, if_true, nI_add]) (it fleet (shipG men day) m) (none, none, none) hE.1.1.1
  have hP : it men payG (it fleet (shipG men day) m) 73 2 = nI men := by rw [it_row (fun k m => payG_row (by omega))]; exact hE.1.1.1
  refine Eq.trans ?_ (e1.trans ?_)
  · simp only [u117_0, u117_1, u117_3, u117_4, u117_7, u117_10, u117_11, u117_14, u117_15, u117_16, u117_17, u117_20, u117_21, u117_24, u117_25, u117_28, u117_31, u117_32, u117_33, u117_34, u117_37, u117_40, u117_43, u117_44, u117_46, u117_47, u117_50, u117_53, u117_54, u117_57, u117_58, u117_59, u117_60, u117_62, u117_65, u117_68, u117_69, u117_72, u117_73, u117_76, u117_77, u117_78, u117_79, u117_80, u117_81, u117_84, u117_85, u117_86, u117_87, u117_90, u117_91, u117_92, u117_93, u117_96, u117_97, u117_100, u117_101, u117_102, u117_103, u117_106, u117_107, u117_110, u117_111, u117_112, u117_115, u117_116, u117_117, u117_118, u117_120, u117_122, u117_123, u117_126, u117_127, u117_128, u117_131, u117_133, u117_136, u117_137, u117_140, u117_141, u117_142, u117_144, u117_145, u117_148, u117_149, u117_150, u117_151, u117_153, u117_154, u117_155, u117_156, u117_159, u117_160, u117_163, u117_164, u117_165, u117_166, u117_167, u117_169, u117_170, u117_171, u117_172, u117_175, u117_176, u117_177, u117_178, u117_180, u117_182, u117_183, u117_184, u117_185, u117_188, u117_191]
  refine u117_2.trans ?_
  simp (disch := omega) only [u117_0, u117_1, u117_3, u117_4, u117_7, u117_10, u117_11, u117_14, u117_15, u117_16, u117_17, u117_20, u117_21, u117_24, u117_25, u117_28, u117_31, u117_32, u117_33, u117_34, u117_37, u117_40, u117_43, u117_44, u117_46, u117_47, u117_50, u117_53, u117_54, u117_57, u117_58, u117_59, u117_60, u117_62, u117_65, u117_68, u117_69, u117_72, u117_73, u117_76, u117_77, u117_78, u117_79, u117_80, u117_81, u117_84, u117_85, u117_86, u117_87, u117_90, u117_91, u117_92, u117_93, u117_96, u117_97, u117_100, u117_101, u117_102, u117_103, u117_106, u117_107, u117_110, u117_111, u117_112, u117_115, u117_116, u117_117, u117_118, u117_120, u117_122, u117_123, u117_126, u117_127, u117_128, u117_131, u117_133, u117_136, u117_137, u117_140, u117_141, u117_142, u117_144, u117_145, u117_148, u117_149, u117_150, u117_151, u117_153, u117_154, u117_155, u117_156, u117_159, u117_160, u117_163, u117_164, u117_165, u117_166, u117_167, u117_169, u117_170, u117_171, u117_172, u117_175, u117_176, u117_177, u117_178, u117_180, u117_182, u117_183, u117_184, u117_185, u117_188, u117_191, hE.1.1.2.2, nI_le8, Nat.le_refl, if_true]
  refine e2.trans (u117_45.trans ?_)
  simp (disch := omega) only [u117_0, u117_1, u117_3, u117_4, u117_7, u117_10, u117_11, u117_14, u117_15, u117_16, u117_17, u117_20, u117_21, u117_24, u117_25, u117_28, u117_31, u117_32, u117_33, u117_34, u117_37, u117_40, u117_43, u117_44, u117_46, u117_47, u117_50, u117_53, u117_54, u117_57, u117_58, u117_59, u117_60, u117_62, u117_65, u117_68, u117_69, u117_72, u117_73, u117_76, u117_77, u117_78, u117_79, u117_80, u117_81, u117_84, u117_85, u117_86, u117_87, u117_90, u117_91, u117_92, u117_93, u117_96, u117_97, u117_100, u117_101, u117_102, u117_103, u117_106, u117_107, u117_110, u117_111, u117_112, u117_115, u117_116, u117_117, u117_118, u117_120, u117_122, u117_123, u117_126, u117_127, u117_128, u117_131, u117_133, u117_136, u117_137, u117_140, u117_141, u117_142, u117_144, u117_145, u117_148, u117_149, u117_150, u117_151, u117_153, u117_154, u117_155, u117_156, u117_159, u117_160, u117_163, u117_164, u117_165, u117_166, u117_167, u117_169, u117_170, u117_171, u117_172, u117_175, u117_176, u117_177, u117_178, u117_180, u117_182, u117_183, u117_184, u117_185, u117_188, u117_191, hP, nI_le8, Nat.le_refl, if_true]
  rfl
end MGOES
