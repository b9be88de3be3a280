section READS
variable {S : AScr} {f : Nat} {m : AMem} {Rt : Option Value → AMem → Prop}
def goV (t n : Nat) (b : Nat → Nat) (p : Nat) : Nat := if t = 0 then manV n b p else if t = 1 then innV n b p else shpV n b p
def goW (t n : Nat) (b : Nat → Nat) (k p : Nat) (m : AMem) : AMem := if t = 0 then manW n b k p m else if t = 1 then innW n b k p m else shpW n b k p m
def szN (t : Nat) : Nat := if t = 0 then 4 else if t = 1 then 2 else 5
def mostN (t : Nat) : Nat := if t = 2 then 6 else 8
def partsR (t n : Nat) (b : Nat → Nat) : Nat → Nat → Nat → AMem → Int32 × AMem
  | 0, _, p, m => (nI p, m)
  | r + 1, k, p, m =>
    if goV t n b p < szN t then (nI (p + goV t n b p), goW t n b k p m)
    else if p + szN t = n then (-1, up (goW t n b k p m) 73 (kpS t) (nI (k + 1)))
    else if byV n b (p + szN t) = nI 59 then partsR t n b r (k + 1) (p + szN t + 1) (goW t n b k p m)
    else (nI (p + szN t), goW t n b k p m)
def partsM (t n : Nat) (b : Nat → Nat) (m : AMem) : Int32 × AMem := if n = 0 then (-1, up m 73 (kpS t) (nI 0)) else partsR t n b (mostN t) 0 0 (up m 73 (kpS t) (nI 0))
theorem man_le {n p : Nat} {b : Nat → Nat} : manV n b p ≤ 4 := by unfold manV; repeat (first | split | omega)
theorem inn_le {n p : Nat} {b : Nat → Nat} : innV n b p ≤ 2 := by unfold innV; repeat (first | split | omega)
theorem shp_le {n p : Nat} {b : Nat → Nat} : shpV n b p ≤ 5 := by unfold shpV; repeat (first | split | omega)
theorem goW_row {t n k p a : Nat} {b : Nat → Nat} (h : a < 76 ∨ 85 < a) : goW t n b k p m a = m a := by
  unfold goW manW innW shpW
  split
  · split
    · rw [up_row (by omega), up_row (by omega), up_row (by omega), up_row (by omega)]
    · rfl
  · split
    · split
      · rw [up_row (by omega), up_row (by omega)]
      · rfl
    · split
      · rw [up_row (by omega), up_row (by omega), up_row (by omega), up_row (by omega)]
      · rfl
theorem Ux_go {t n t2 n2 k p : Nat} {b b2 : Nat → Nat} (h : Ux t2 n2 b2 m) : Ux t2 n2 b2 (goW t n b k p m) := Ux_keep h (goW_row (by omega)) (goW_row (by omega))
theorem Ux_up {t n a j : Nat} {v : Int32} {b : Nat → Nat} (h : Ux t n b m) (h1 : a ≠ 74) (h2 : a ≠ 75) : Ux t n b (up m a j v) := Ux_keep h (up_row (fun z => h1 z.symm)) (up_row (fun z => h2 z.symm))
theorem partsR_row {t n a : Nat} {b : Nat → Nat} (h : a < 73 ∨ (73 < a ∧ a < 76) ∨ 85 < a) : ∀ (r k p : Nat) (m : AMem), (partsR t n b r k p m).2 a = m a := by
  intro r
  induction r with
  | zero => intro k p m; rfl
  | succ r ih =>
    intro k p m
    unfold partsR
    split
    · exact goW_row (by omega)
    · split
      · show up (goW t n b k p m) 73 (kpS t) (nI (k + 1)) a = m a
        rw [up_row (by omega)]
        exact goW_row (by omega)
      · split
        · rw [ih]
          exact goW_row (by omega)
        · exact goW_row (by omega)
theorem partsM_row {t n a : Nat} {b : Nat → Nat} (h : a < 73 ∨ (73 < a ∧ a < 76) ∨ 85 < a) : (partsM t n b m).2 a = m a := by
  unfold partsM
  split
  · exact up_row (by omega)
  · rw [partsR_row h]
    exact up_row (by omega)
theorem Ux_parts {t n t2 n2 : Nat} {b b2 : Nat → Nat} (h : Ux t2 n2 b2 m) : Ux t2 n2 b2 (partsM t n b m).2 := Ux_keep h (partsM_row (by omega)) (partsM_row (by omega))
theorem p_step0 {n k p : Nat} {b : Nat → Nat} {l : Option Value} (h : Ux 0 n b m) (hk9 : k < 8) (hp9 : p < 1000) (hq : p < n ∨ 0 < p) : T S (f + 4) 94 44 [some (.ref 73), some (.int (nI 0)), some (.int (nI 4)), some (.int (nI 8)), some (.int (nI k)), some (.int (nI p)), l] [] m Rt = T S (f + 4) 94 111 [some (.ref 73), some (.int (nI 0)), some (.int (nI 4)), some (.int (nI 8)), some (.int (nI k)), some (.int (nI p)), some (.int (nI (manV n b p)))] [] (manW n b k p m) Rt := by
  have hBt : inB (nI 0) 3 = true := inB8 (by decide) (by decide)
  have hct : (nI 0).toNatClampNeg = 0 := nI_cl8 (by decide)
  have hn := h.2.1
  have hc := tcap_le (show 0 ≤ 2 by decide)
  have hkm : (nI k = nI 8) = False := by rw [nI_eq8 (by omega) (by omega)]; exact eq_false (by omega)
  have hkb : k < 9 := by omega
  have e1 := fun Rt => s_mMan (S := S) (f := f) (Rt := Rt) h hkb hp9
  refine u94_44.trans ?_
  by_cases q : p < n
  · simp (disch := omega) only [u94_0, u94_1, u94_4, u94_5, u94_8, u94_9, u94_10, u94_13, u94_14, u94_17, u94_18, u94_19, u94_20, u94_21, u94_24, u94_26, u94_29, u94_31, u94_32, u94_33, u94_35, u94_36, u94_38, u94_39, u94_40, u94_41, u94_46, u94_47, u94_50, u94_51, u94_52, u94_55, u94_57, u94_60, u94_62, u94_63, u94_66, u94_67, u94_70, u94_71, u94_74, u94_75, u94_77, u94_79, u94_82, u94_85, u94_86, u94_87, u94_90, u94_91, u94_93, u94_95, u94_98, u94_101, u94_102, u94_104, u94_106, u94_109, u94_113, u94_114, u94_117, u94_119, u94_121, u94_122, u94_123, u94_126, u94_128, u94_129, u94_130, u94_132, u94_134, u94_135, u94_138, u94_139, u94_140, u94_143, u94_144, u94_145, u94_147, u94_150, u94_151, u94_152, u94_153, u94_154, u94_156, u94_159, u94_161, u94_164, u94_166, u94_167, u94_170, u94_173, u94_174, hBt, hct, h.1, true_and, nI_lt8, q, if_true, show ¬ nI 0 = nI 1 by decide, show ¬ nI 0 = nI 2 by decide, if_false, hkm, e1, pu_some, pu_none]
  · have h0 : ¬ p ≤ 0 := by omega
    simp (disch := omega) only [u94_0, u94_1, u94_4, u94_5, u94_8, u94_9, u94_10, u94_13, u94_14, u94_17, u94_18, u94_19, u94_20, u94_21, u94_24, u94_26, u94_29, u94_31, u94_32, u94_33, u94_35, u94_36, u94_38, u94_39, u94_40, u94_41, u94_46, u94_47, u94_50, u94_51, u94_52, u94_55, u94_57, u94_60, u94_62, u94_63, u94_66, u94_67, u94_70, u94_71, u94_74, u94_75, u94_77, u94_79, u94_82, u94_85, u94_86, u94_87, u94_90, u94_91, u94_93, u94_95, u94_98, u94_101, u94_102, u94_104, u94_106, u94_109, u94_113, u94_114, u94_117, u94_119, u94_121, u94_122, u94_123, u94_126, u94_128, u94_129, u94_130, u94_132, u94_134, u94_135, u94_138, u94_139, u94_140, u94_143, u94_144, u94_145, u94_147, u94_150, u94_151, u94_152, u94_153, u94_154, u94_156, u94_159, u94_161, u94_164, u94_166, u94_167, u94_170, u94_173, u94_174, hBt, hct, h.1, true_and, nI_lt8, nI_le8, q, h0, if_true, show ¬ nI 0 = nI 1 by decide, show ¬ nI 0 = nI 2 by decide, if_false, hkm, e1, pu_some, pu_none]
set_option maxHeartbeats 1000000 in
theorem p_key0 {n : Nat} {b : Nat → Nat} : ∀ (r k p : Nat) (m : AMem) (l : Option Value), k + r = 8 → p = k * 5 → (p < n ∨ 0 < p) → Ux 0 n b m → T S (f + 4) 94 44 [some (.ref 73), some (.int (nI 0)), some (.int (nI 4)), some (.int (nI 8)), some (.int (nI k)), some (.int (nI p)), l] [] m Rt = Rt (some (.int (partsR 0 n b r k p m).1)) (partsR 0 n b r k p m).2 := by
  have hBt : inB (nI 0) 3 = true := inB8 (by decide) (by decide)
  have hct : (nI 0).toNatClampNeg = 0 := nI_cl8 (by decide)
  have eV : ∀ p, goV 0 n b p = manV n b p := fun p => by unfold goV; rw [if_pos rfl]
  have eW : ∀ k p m, goW 0 n b k p m = manW n b k p m := fun k p m => by unfold goW; rw [if_pos rfl]
  intro r
  induction r with
  | zero =>
    intro k p m l hk hp hq h
    have hn := h.2.1
    have hc := tcap_le (show 0 ≤ 2 by decide)
    have hk2 : k = 8 := by omega
    subst hk2
    have h0 : ¬ p ≤ 0 := by omega
    have hz : ¬ 4 ≤ 0 := by decide
    refine u94_44.trans ?_
    by_cases q : p < n
    · simp (disch := omega) only [u94_0, u94_1, u94_4, u94_5, u94_8, u94_9, u94_10, u94_13, u94_14, u94_17, u94_18, u94_19, u94_20, u94_21, u94_24, u94_26, u94_29, u94_31, u94_32, u94_33, u94_35, u94_36, u94_38, u94_39, u94_40, u94_41, u94_46, u94_47, u94_50, u94_51, u94_52, u94_55, u94_57, u94_60, u94_62, u94_63, u94_66, u94_67, u94_70, u94_71, u94_74, u94_75, u94_77, u94_79, u94_82, u94_85, u94_86, u94_87, u94_90, u94_91, u94_93, u94_95, u94_98, u94_101, u94_102, u94_104, u94_106, u94_109, u94_111, u94_113, u94_114, u94_117, u94_119, u94_121, u94_122, u94_123, u94_126, u94_128, u94_129, u94_130, u94_132, u94_134, u94_135, u94_138, u94_139, u94_140, u94_143, u94_144, u94_145, u94_147, u94_150, u94_151, u94_152, u94_153, u94_154, u94_156, u94_159, u94_161, u94_164, u94_166, u94_167, u94_170, u94_173, u94_174, hBt, hct, h.1, true_and, nI_lt8, nI_le8, q, if_true, show ¬ nI 0 = nI 1 by decide, show ¬ nI 0 = nI 2 by decide, if_false, hz, nI_add, Nat.add_zero, partsR]
    · simp (disch := omega) only [u94_0, u94_1, u94_4, u94_5, u94_8, u94_9, u94_10, u94_13, u94_14, u94_17, u94_18, u94_19, u94_20, u94_21, u94_24, u94_26, u94_29, u94_31, u94_32, u94_33, u94_35, u94_36, u94_38, u94_39, u94_40, u94_41, u94_46, u94_47, u94_50, u94_51, u94_52, u94_55, u94_57, u94_60, u94_62, u94_63, u94_66, u94_67, u94_70, u94_71, u94_74, u94_75, u94_77, u94_79, u94_82, u94_85, u94_86, u94_87, u94_90, u94_91, u94_93, u94_95, u94_98, u94_101, u94_102, u94_104, u94_106, u94_109, u94_111, u94_113, u94_114, u94_117, u94_119, u94_121, u94_122, u94_123, u94_126, u94_128, u94_129, u94_130, u94_132, u94_134, u94_135, u94_138, u94_139, u94_140, u94_143, u94_144, u94_145, u94_147, u94_150, u94_151, u94_152, u94_153, u94_154, u94_156, u94_159, u94_161, u94_164, u94_166, u94_167, u94_170, u94_173, u94_174, hBt, hct, h.1, true_and, nI_lt8, nI_le8, q, h0, if_true, show ¬ nI 0 = nI 1 by decide, show ¬ nI 0 = nI 2 by decide, if_false, hz, nI_add, Nat.add_zero, partsR]
  | succ r ih =>
    intro k p m l hk hp hq h
    have hn := h.2.1
    have hc := tcap_le (show 0 ≤ 2 by decide)
    have hk9 : k < 9 := by omega
    have hp9 : p < 1000 := by omega
    have hle := man_le (n := n) (p := p) (b := b)
    have hg : Ux 0 n b (manW n b k p m) := by rw [← eW]; exact Ux_go h
    have hst : 8 ≤ 8 := by decide
    have step := p_step0 (S := S) (f := f) (Rt := Rt) (l := l) h (show k < 8 by omega) hp9 hq
    rw [step]
    unfold partsR
    rw [eV, eW, show szN 0 = 4 from rfl, show kpS 0 = 2 from rfl]
    have pb : p + 4 < 2147483648 := by omega
    have e2 := fun Rt => s_mByte (S := S) (f := f + 2) (Rt := Rt) hg (show 0 ≤ 2 by decide) pb
    by_cases q1 : manV n b p < 4
    · have q1' : ¬ 4 ≤ manV n b p := by omega
      simp (disch := omega) only [u94_0, u94_1, u94_4, u94_5, u94_8, u94_9, u94_10, u94_13, u94_14, u94_17, u94_18, u94_19, u94_20, u94_21, u94_24, u94_26, u94_29, u94_31, u94_32, u94_33, u94_35, u94_36, u94_38, u94_39, u94_40, u94_41, u94_46, u94_47, u94_50, u94_51, u94_52, u94_55, u94_57, u94_60, u94_62, u94_63, u94_66, u94_67, u94_70, u94_71, u94_74, u94_75, u94_77, u94_79, u94_82, u94_85, u94_86, u94_87, u94_90, u94_91, u94_93, u94_95, u94_98, u94_101, u94_102, u94_104, u94_106, u94_109, u94_111, u94_113, u94_114, u94_117, u94_119, u94_121, u94_122, u94_123, u94_126, u94_128, u94_129, u94_130, u94_132, u94_134, u94_135, u94_138, u94_139, u94_140, u94_143, u94_144, u94_145, u94_147, u94_150, u94_151, u94_152, u94_153, u94_154, u94_156, u94_159, u94_161, u94_164, u94_166, u94_167, u94_170, u94_173, u94_174, nI_le8, q1, q1', if_false, if_true, nI_add]
    · have q1' : 4 ≤ manV n b p := by omega
      by_cases q2 : p + 4 = n
      · simp (disch := omega) only [u94_0, u94_1, u94_4, u94_5, u94_8, u94_9, u94_10, u94_13, u94_14, u94_17, u94_18, u94_19, u94_20, u94_21, u94_24, u94_26, u94_29, u94_31, u94_32, u94_33, u94_35, u94_36, u94_38, u94_39, u94_40, u94_41, u94_46, u94_47, u94_50, u94_51, u94_52, u94_55, u94_57, u94_60, u94_62, u94_63, u94_66, u94_67, u94_70, u94_71, u94_74, u94_75, u94_77, u94_79, u94_82, u94_85, u94_86, u94_87, u94_90, u94_91, u94_93, u94_95, u94_98, u94_101, u94_102, u94_104, u94_106, u94_109, u94_111, u94_113, u94_114, u94_117, u94_119, u94_121, u94_122, u94_123, u94_126, u94_128, u94_129, u94_130, u94_132, u94_134, u94_135, u94_138, u94_139, u94_140, u94_143, u94_144, u94_145, u94_147, u94_150, u94_151, u94_152, u94_153, u94_154, u94_156, u94_159, u94_161, u94_164, u94_166, u94_167, u94_170, u94_173, u94_174, nI_le8, q1, q1', if_false, if_true, nI_add, hBt, hct, hg.1, true_and, nI_eq8, q2, s_mKeeps0, pu_some, pu_none]
      · by_cases q3 : byV n b (p + 4) = nI 59
        · simp (disch := omega) only [u94_0, u94_1, u94_4, u94_5, u94_8, u94_9, u94_10, u94_13, u94_14, u94_17, u94_18, u94_19, u94_20, u94_21, u94_24, u94_26, u94_29, u94_31, u94_32, u94_33, u94_35, u94_36, u94_38, u94_39, u94_40, u94_41, u94_46, u94_47, u94_50, u94_51, u94_52, u94_55, u94_57, u94_60, u94_62, u94_63, u94_66, u94_67, u94_70, u94_71, u94_74, u94_75, u94_77, u94_79, u94_82, u94_85, u94_86, u94_87, u94_90, u94_91, u94_93, u94_95, u94_98, u94_101, u94_102, u94_104, u94_106, u94_109, u94_111, u94_113, u94_114, u94_117, u94_119, u94_121, u94_122, u94_123, u94_126, u94_128, u94_129, u94_130, u94_132, u94_134, u94_135, u94_138, u94_139, u94_140, u94_143, u94_144, u94_145, u94_147, u94_150, u94_151, u94_152, u94_153, u94_154, u94_156, u94_159, u94_161, u94_164, u94_166, u94_167, u94_170, u94_173, u94_174, nI_le8, q1, q1', if_false, if_true, nI_add, hBt, hct, hg.1, true_and, nI_eq8, q2, e2, q3, pu_some, pu_none]
          exact ih (k + 1) (p + 4 + 1) _ _ (by omega) (by omega) (by omega) hg
        · simp (disch := omega) only [u94_0, u94_1, u94_4, u94_5, u94_8, u94_9, u94_10, u94_13, u94_14, u94_17, u94_18, u94_19, u94_20, u94_21, u94_24, u94_26, u94_29, u94_31, u94_32, u94_33, u94_35, u94_36, u94_38, u94_39, u94_40, u94_41, u94_46, u94_47, u94_50, u94_51, u94_52, u94_55, u94_57, u94_60, u94_62, u94_63, u94_66, u94_67, u94_70, u94_71, u94_74, u94_75, u94_77, u94_79, u94_82, u94_85, u94_86, u94_87, u94_90, u94_91, u94_93, u94_95, u94_98, u94_101, u94_102, u94_104, u94_106, u94_109, u94_111, u94_113, u94_114, u94_117, u94_119, u94_121, u94_122, u94_123, u94_126, u94_128, u94_129, u94_130, u94_132, u94_134, u94_135, u94_138, u94_139, u94_140, u94_143, u94_144, u94_145, u94_147, u94_150, u94_151, u94_152, u94_153, u94_154, u94_156, u94_159, u94_161, u94_164, u94_166, u94_167, u94_170, u94_173, u94_174, nI_le8, q1, q1', if_false, if_true, nI_add, hBt, hct, hg.1, true_and, nI_eq8, q2, e2, q3, pu_some, pu_none]
theorem s_mParts0 {n : Nat} {b : Nat → Nat} (h : Ux 0 n b m) : T S (f + 4) 94 0 [some (.ref 73), some (.int (nI 0)), none, none, none, none, none] [] m Rt = Rt (some (.int (partsM 0 n b m).1)) (partsM 0 n b m).2 := by
  have hBt : inB (nI 0) 3 = true := inB8 (by decide) (by decide)
  have hct : (nI 0).toNatClampNeg = 0 := nI_cl8 (by decide)
  have h0 : Ux 0 n b (up m 73 2 (nI 0)) := Ux_up h (by decide) (by decide)
  have head : T S (f + 4) 94 0 [some (.ref 73), some (.int (nI 0)), none, none, none, none, none] [] m Rt = T S (f + 4) 94 44 [some (.ref 73), some (.int (nI 0)), some (.int (nI 4)), some (.int (nI 8)), some (.int (nI 0)), some (.int (nI 0)), none] [] (up m 73 2 (nI 0)) Rt := by
    simp only [u94_0, u94_1, u94_4, u94_5, u94_8, u94_9, u94_10, u94_13, u94_14, u94_17, u94_18, u94_19, u94_20, u94_21, u94_24, u94_26, u94_29, u94_31, u94_32, u94_33, u94_35, u94_36, u94_38, u94_39, u94_40, u94_41, u94_46, u94_47, u94_50, u94_51, u94_52, u94_55, u94_57, u94_60, u94_62, u94_63, u94_66, u94_67, u94_70, u94_71, u94_74, u94_75, u94_77, u94_79, u94_82, u94_85, u94_86, u94_87, u94_90, u94_91, u94_93, u94_95, u94_98, u94_101, u94_102, u94_104, u94_106, u94_109, u94_111, u94_113, u94_114, u94_117, u94_119, u94_121, u94_122, u94_123, u94_126, u94_128, u94_129, u94_130, u94_132, u94_134, u94_135, u94_138, u94_139, u94_140, u94_143, u94_144, u94_145, u94_147, u94_150, u94_151, u94_152, u94_153, u94_154, u94_156, u94_159, u94_161, u94_164, u94_166, u94_167, u94_170, u94_173, u94_174, if_true, if_false, show ¬ nI 0 = nI 1 by decide, show ¬ nI 0 = nI 2 by decide, s_mKeeps0, pu_some, pu_none]
  rw [head]
  unfold partsM
  have hn := h.2.1
  have hc := tcap_le (show 0 ≤ 2 by decide)
  by_cases q : n = 0
  · subst q
    rw [if_pos (show 0 = 0 from rfl), show kpS 0 = 2 from rfl]
    have hg1 : up m 73 2 (nI 0) 74 0 = nI 0 := h0.1
    refine u94_44.trans ?_
    simp only [u94_0, u94_1, u94_4, u94_5, u94_8, u94_9, u94_10, u94_13, u94_14, u94_17, u94_18, u94_19, u94_20, u94_21, u94_24, u94_26, u94_29, u94_31, u94_32, u94_33, u94_35, u94_36, u94_38, u94_39, u94_40, u94_41, u94_46, u94_47, u94_50, u94_51, u94_52, u94_55, u94_57, u94_60, u94_62, u94_63, u94_66, u94_67, u94_70, u94_71, u94_74, u94_75, u94_77, u94_79, u94_82, u94_85, u94_86, u94_87, u94_90, u94_91, u94_93, u94_95, u94_98, u94_101, u94_102, u94_104, u94_106, u94_109, u94_111, u94_113, u94_114, u94_117, u94_119, u94_121, u94_122, u94_123, u94_126, u94_128, u94_129, u94_130, u94_132, u94_134, u94_135, u94_138, u94_139, u94_140, u94_143, u94_144, u94_145, u94_147, u94_150, u94_151, u94_152, u94_153, u94_154, u94_156, u94_159, u94_161, u94_164, u94_166, u94_167, u94_170, u94_173, u94_174, hBt, hct, hg1, true_and, show ¬ nI 0 < nI 0 by decide, if_false, show nI 0 ≤ nI 0 by decide, if_true]
  · rw [if_neg q, show kpS 0 = 2 from rfl, show mostN 0 = 8 from rfl]
    exact p_key0 8 0 0 _ none rfl rfl (Or.inl (by omega)) h0
theorem p_step1 {n k p : Nat} {b : Nat → Nat} {l : Option Value} (h : Ux 1 n b m) (hk9 : k < 8) (hp9 : p < 1000) (hq : p < n ∨ 0 < p) : T S (f + 4) 94 44 [some (.ref 73), some (.int (nI 1)), some (.int (nI 2)), some (.int (nI 8)), some (.int (nI k)), some (.int (nI p)), l] [] m Rt = T S (f + 4) 94 111 [some (.ref 73), some (.int (nI 1)), some (.int (nI 2)), some (.int (nI 8)), some (.int (nI k)), some (.int (nI p)), some (.int (nI (innV n b p)))] [] (innW n b k p m) Rt := by
  have hBt : inB (nI 1) 3 = true := inB8 (by decide) (by decide)
  have hct : (nI 1).toNatClampNeg = 1 := nI_cl8 (by decide)
  have hn := h.2.1
  have hc := tcap_le (show 1 ≤ 2 by decide)
  have hkm : (nI k = nI 8) = False := by rw [nI_eq8 (by omega) (by omega)]; exact eq_false (by omega)
  have hkb : k < 9 := by omega
  have e1 := fun Rt => s_mInn (S := S) (f := f) (Rt := Rt) h hkb hp9
  refine u94_44.trans ?_
  by_cases q : p < n
  · simp (disch := omega) only [u94_0, u94_1, u94_4, u94_5, u94_8, u94_9, u94_10, u94_13, u94_14, u94_17, u94_18, u94_19, u94_20, u94_21, u94_24, u94_26, u94_29, u94_31, u94_32, u94_33, u94_35, u94_36, u94_38, u94_39, u94_40, u94_41, u94_46, u94_47, u94_50, u94_51, u94_52, u94_55, u94_57, u94_60, u94_62, u94_63, u94_66, u94_67, u94_70, u94_71, u94_74, u94_75, u94_77, u94_79, u94_82, u94_85, u94_86, u94_87, u94_90, u94_91, u94_93, u94_95, u94_98, u94_101, u94_102, u94_104, u94_106, u94_109, u94_113, u94_114, u94_117, u94_119, u94_121, u94_122, u94_123, u94_126, u94_128, u94_129, u94_130, u94_132, u94_134, u94_135, u94_138, u94_139, u94_140, u94_143, u94_144, u94_145, u94_147, u94_150, u94_151, u94_152, u94_153, u94_154, u94_156, u94_159, u94_161, u94_164, u94_166, u94_167, u94_170, u94_173, u94_174, hBt, hct, h.1, true_and, nI_lt8, q, if_true, show ¬ nI 1 = nI 0 by decide, show ¬ nI 1 = nI 2 by decide, if_false, hkm, e1, pu_some, pu_none]
  · have h0 : ¬ p ≤ 0 := by omega
    simp (disch := omega) only [u94_0, u94_1, u94_4, u94_5, u94_8, u94_9, u94_10, u94_13, u94_14, u94_17, u94_18, u94_19, u94_20, u94_21, u94_24, u94_26, u94_29, u94_31, u94_32, u94_33, u94_35, u94_36, u94_38, u94_39, u94_40, u94_41, u94_46, u94_47, u94_50, u94_51, u94_52, u94_55, u94_57, u94_60, u94_62, u94_63, u94_66, u94_67, u94_70, u94_71, u94_74, u94_75, u94_77, u94_79, u94_82, u94_85, u94_86, u94_87, u94_90, u94_91, u94_93, u94_95, u94_98, u94_101, u94_102, u94_104, u94_106, u94_109, u94_113, u94_114, u94_117, u94_119, u94_121, u94_122, u94_123, u94_126, u94_128, u94_129, u94_130, u94_132, u94_134, u94_135, u94_138, u94_139, u94_140, u94_143, u94_144, u94_145, u94_147, u94_150, u94_151, u94_152, u94_153, u94_154, u94_156, u94_159, u94_161, u94_164, u94_166, u94_167, u94_170, u94_173, u94_174, hBt, hct, h.1, true_and, nI_lt8, nI_le8, q, h0, if_true, show ¬ nI 1 = nI 0 by decide, show ¬ nI 1 = nI 2 by decide, if_false, hkm, e1, pu_some, pu_none]
set_option maxHeartbeats 1000000 in
theorem p_key1 {n : Nat} {b : Nat → Nat} : ∀ (r k p : Nat) (m : AMem) (l : Option Value), k + r = 8 → p = k * 3 → (p < n ∨ 0 < p) → Ux 1 n b m → T S (f + 4) 94 44 [some (.ref 73), some (.int (nI 1)), some (.int (nI 2)), some (.int (nI 8)), some (.int (nI k)), some (.int (nI p)), l] [] m Rt = Rt (some (.int (partsR 1 n b r k p m).1)) (partsR 1 n b r k p m).2 := by
  have hBt : inB (nI 1) 3 = true := inB8 (by decide) (by decide)
  have hct : (nI 1).toNatClampNeg = 1 := nI_cl8 (by decide)
  have eV : ∀ p, goV 1 n b p = innV n b p := fun p => by unfold goV; rw [if_neg (by decide), if_pos rfl]
  have eW : ∀ k p m, goW 1 n b k p m = innW n b k p m := fun k p m => by unfold goW; rw [if_neg (by decide), if_pos rfl]
  intro r
  induction r with
  | zero =>
    intro k p m l hk hp hq h
    have hn := h.2.1
    have hc := tcap_le (show 1 ≤ 2 by decide)
    have hk2 : k = 8 := by omega
    subst hk2
    have h0 : ¬ p ≤ 0 := by omega
    have hz : ¬ 2 ≤ 0 := by decide
    refine u94_44.trans ?_
    by_cases q : p < n
    · simp (disch := omega) only [u94_0, u94_1, u94_4, u94_5, u94_8, u94_9, u94_10, u94_13, u94_14, u94_17, u94_18, u94_19, u94_20, u94_21, u94_24, u94_26, u94_29, u94_31, u94_32, u94_33, u94_35, u94_36, u94_38, u94_39, u94_40, u94_41, u94_46, u94_47, u94_50, u94_51, u94_52, u94_55, u94_57, u94_60, u94_62, u94_63, u94_66, u94_67, u94_70, u94_71, u94_74, u94_75, u94_77, u94_79, u94_82, u94_85, u94_86, u94_87, u94_90, u94_91, u94_93, u94_95, u94_98, u94_101, u94_102, u94_104, u94_106, u94_109, u94_111, u94_113, u94_114, u94_117, u94_119, u94_121, u94_122, u94_123, u94_126, u94_128, u94_129, u94_130, u94_132, u94_134, u94_135, u94_138, u94_139, u94_140, u94_143, u94_144, u94_145, u94_147, u94_150, u94_151, u94_152, u94_153, u94_154, u94_156, u94_159, u94_161, u94_164, u94_166, u94_167, u94_170, u94_173, u94_174, hBt, hct, h.1, true_and, nI_lt8, nI_le8, q, if_true, show ¬ nI 1 = nI 0 by decide, show ¬ nI 1 = nI 2 by decide, if_false, hz, nI_add, Nat.add_zero, partsR]
    · simp (disch := omega) only [u94_0, u94_1, u94_4, u94_5, u94_8, u94_9, u94_10, u94_13, u94_14, u94_17, u94_18, u94_19, u94_20, u94_21, u94_24, u94_26, u94_29, u94_31, u94_32, u94_33, u94_35, u94_36, u94_38, u94_39, u94_40, u94_41, u94_46, u94_47, u94_50, u94_51, u94_52, u94_55, u94_57, u94_60, u94_62, u94_63, u94_66, u94_67, u94_70, u94_71, u94_74, u94_75, u94_77, u94_79, u94_82, u94_85, u94_86, u94_87, u94_90, u94_91, u94_93, u94_95, u94_98, u94_101, u94_102, u94_104, u94_106, u94_109, u94_111, u94_113, u94_114, u94_117, u94_119, u94_121, u94_122, u94_123, u94_126, u94_128, u94_129, u94_130, u94_132, u94_134, u94_135, u94_138, u94_139, u94_140, u94_143, u94_144, u94_145, u94_147, u94_150, u94_151, u94_152, u94_153, u94_154, u94_156, u94_159, u94_161, u94_164, u94_166, u94_167, u94_170, u94_173, u94_174, hBt, hct, h.1, true_and, nI_lt8, nI_le8, q, h0, if_true, show ¬ nI 1 = nI 0 by decide, show ¬ nI 1 = nI 2 by decide, if_false, hz, nI_add, Nat.add_zero, partsR]
  | succ r ih =>
    intro k p m l hk hp hq h
    have hn := h.2.1
    have hc := tcap_le (show 1 ≤ 2 by decide)
    have hk9 : k < 9 := by omega
    have hp9 : p < 1000 := by omega
    have hle := inn_le (n := n) (p := p) (b := b)
    have hg : Ux 1 n b (innW n b k p m) := by rw [← eW]; exact Ux_go h
    have hst : 8 ≤ 8 := by decide
    have step := p_step1 (S := S) (f := f) (Rt := Rt) (l := l) h (show k < 8 by omega) hp9 hq
    rw [step]
    unfold partsR
    rw [eV, eW, show szN 1 = 2 from rfl, show kpS 1 = 7 from rfl]
    have pb : p + 2 < 2147483648 := by omega
    have e2 := fun Rt => s_mByte (S := S) (f := f + 2) (Rt := Rt) hg (show 1 ≤ 2 by decide) pb
    by_cases q1 : innV n b p < 2
    · have q1' : ¬ 2 ≤ innV n b p := by omega
      simp (disch := omega) only [u94_0, u94_1, u94_4, u94_5, u94_8, u94_9, u94_10, u94_13, u94_14, u94_17, u94_18, u94_19, u94_20, u94_21, u94_24, u94_26, u94_29, u94_31, u94_32, u94_33, u94_35, u94_36, u94_38, u94_39, u94_40, u94_41, u94_46, u94_47, u94_50, u94_51, u94_52, u94_55, u94_57, u94_60, u94_62, u94_63, u94_66, u94_67, u94_70, u94_71, u94_74, u94_75, u94_77, u94_79, u94_82, u94_85, u94_86, u94_87, u94_90, u94_91, u94_93, u94_95, u94_98, u94_101, u94_102, u94_104, u94_106, u94_109, u94_111, u94_113, u94_114, u94_117, u94_119, u94_121, u94_122, u94_123, u94_126, u94_128, u94_129, u94_130, u94_132, u94_134, u94_135, u94_138, u94_139, u94_140, u94_143, u94_144, u94_145, u94_147, u94_150, u94_151, u94_152, u94_153, u94_154, u94_156, u94_159, u94_161, u94_164, u94_166, u94_167, u94_170, u94_173, u94_174, nI_le8, q1, q1', if_false, if_true, nI_add]
    · have q1' : 2 ≤ innV n b p := by omega
      by_cases q2 : p + 2 = n
      · simp (disch := omega) only [u94_0, u94_1, u94_4, u94_5, u94_8, u94_9, u94_10, u94_13, u94_14, u94_17, u94_18, u94_19, u94_20, u94_21, u94_24, u94_26, u94_29, u94_31, u94_32, u94_33, u94_35, u94_36, u94_38, u94_39, u94_40, u94_41, u94_46, u94_47, u94_50, u94_51, u94_52, u94_55, u94_57, u94_60, u94_62, u94_63, u94_66, u94_67, u94_70, u94_71, u94_74, u94_75, u94_77, u94_79, u94_82, u94_85, u94_86, u94_87, u94_90, u94_91, u94_93, u94_95, u94_98, u94_101, u94_102, u94_104, u94_106, u94_109, u94_111, u94_113, u94_114, u94_117, u94_119, u94_121, u94_122, u94_123, u94_126, u94_128, u94_129, u94_130, u94_132, u94_134, u94_135, u94_138, u94_139, u94_140, u94_143, u94_144, u94_145, u94_147, u94_150, u94_151, u94_152, u94_153, u94_154, u94_156, u94_159, u94_161, u94_164, u94_166, u94_167, u94_170, u94_173, u94_174, nI_le8, q1, q1', if_false, if_true, nI_add, hBt, hct, hg.1, true_and, nI_eq8, q2, s_mKeeps1, pu_some, pu_none]
      · by_cases q3 : byV n b (p + 2) = nI 59
        · simp (disch := omega) only [u94_0, u94_1, u94_4, u94_5, u94_8, u94_9, u94_10, u94_13, u94_14, u94_17, u94_18, u94_19, u94_20, u94_21, u94_24, u94_26, u94_29, u94_31, u94_32, u94_33, u94_35, u94_36, u94_38, u94_39, u94_40, u94_41, u94_46, u94_47, u94_50, u94_51, u94_52, u94_55, u94_57, u94_60, u94_62, u94_63, u94_66, u94_67, u94_70, u94_71, u94_74, u94_75, u94_77, u94_79, u94_82, u94_85, u94_86, u94_87, u94_90, u94_91, u94_93, u94_95, u94_98, u94_101, u94_102, u94_104, u94_106, u94_109, u94_111, u94_113, u94_114, u94_117, u94_119, u94_121, u94_122, u94_123, u94_126, u94_128, u94_129, u94_130, u94_132, u94_134, u94_135, u94_138, u94_139, u94_140, u94_143, u94_144, u94_145, u94_147, u94_150, u94_151, u94_152, u94_153, u94_154, u94_156, u94_159, u94_161, u94_164, u94_166, u94_167, u94_170, u94_173, u94_174, nI_le8, q1, q1', if_false, if_true, nI_add, hBt, hct, hg.1, true_and, nI_eq8, q2, e2, q3, pu_some, pu_none]
          exact ih (k + 1) (p + 2 + 1) _ _ (by omega) (by omega) (by omega) hg
        · simp (disch := omega) only [u94_0, u94_1, u94_4, u94_5, u94_8, u94_9, u94_10, u94_13, u94_14, u94_17, u94_18, u94_19, u94_20, u94_21, u94_24, u94_26, u94_29, u94_31, u94_32, u94_33, u94_35, u94_36, u94_38, u94_39, u94_40, u94_41, u94_46, u94_47, u94_50, u94_51, u94_52, u94_55, u94_57, u94_60, u94_62, u94_63, u94_66, u94_67, u94_70, u94_71, u94_74, u94_75, u94_77, u94_79, u94_82, u94_85, u94_86, u94_87, u94_90, u94_91, u94_93, u94_95, u94_98, u94_101, u94_102, u94_104, u94_106, u94_109, u94_111, u94_113, u94_114, u94_117, u94_119, u94_121, u94_122, u94_123, u94_126, u94_128, u94_129, u94_130, u94_132, u94_134, u94_135, u94_138, u94_139, u94_140, u94_143, u94_144, u94_145, u94_147, u94_150, u94_151, u94_152, u94_153, u94_154, u94_156, u94_159, u94_161, u94_164, u94_166, u94_167, u94_170, u94_173, u94_174, nI_le8, q1, q1', if_false, if_true, nI_add, hBt, hct, hg.1, true_and, nI_eq8, q2, e2, q3, pu_some, pu_none]
theorem s_mParts1 {n : Nat} {b : Nat → Nat} (h : Ux 1 n b m) : T S (f + 4) 94 0 [some (.ref 73), some (.int (nI 1)), none, none, none, none, none] [] m Rt = Rt (some (.int (partsM 1 n b m).1)) (partsM 1 n b m).2 := by
  have hBt : inB (nI 1) 3 = true := inB8 (by decide) (by decide)
  have hct : (nI 1).toNatClampNeg = 1 := nI_cl8 (by decide)
  have h0 : Ux 1 n b (up m 73 7 (nI 0)) := Ux_up h (by decide) (by decide)
  have head : T S (f + 4) 94 0 [some (.ref 73), some (.int (nI 1)), none, none, none, none, none] [] m Rt = T S (f + 4) 94 44 [some (.ref 73), some (.int (nI 1)), some (.int (nI 2)), some (.int (nI 8)), some (.int (nI 0)), some (.int (nI 0)), none] [] (up m 73 7 (nI 0)) Rt := by
    simp only [u94_0, u94_1, u94_4, u94_5, u94_8, u94_9, u94_10, u94_13, u94_14, u94_17, u94_18, u94_19, u94_20, u94_21, u94_24, u94_26, u94_29, u94_31, u94_32, u94_33, u94_35, u94_36, u94_38, u94_39, u94_40, u94_41, u94_46, u94_47, u94_50, u94_51, u94_52, u94_55, u94_57, u94_60, u94_62, u94_63, u94_66, u94_67, u94_70, u94_71, u94_74, u94_75, u94_77, u94_79, u94_82, u94_85, u94_86, u94_87, u94_90, u94_91, u94_93, u94_95, u94_98, u94_101, u94_102, u94_104, u94_106, u94_109, u94_111, u94_113, u94_114, u94_117, u94_119, u94_121, u94_122, u94_123, u94_126, u94_128, u94_129, u94_130, u94_132, u94_134, u94_135, u94_138, u94_139, u94_140, u94_143, u94_144, u94_145, u94_147, u94_150, u94_151, u94_152, u94_153, u94_154, u94_156, u94_159, u94_161, u94_164, u94_166, u94_167, u94_170, u94_173, u94_174, if_true, if_false, show ¬ nI 1 = nI 0 by decide, show ¬ nI 1 = nI 2 by decide, s_mKeeps1, pu_some, pu_none]
  rw [head]
  unfold partsM
  have hn := h.2.1
  have hc := tcap_le (show 1 ≤ 2 by decide)
  by_cases q : n = 0
  · subst q
    rw [if_pos (show 0 = 0 from rfl), show kpS 1 = 7 from rfl]
    have hg1 : up m 73 7 (nI 0) 74 1 = nI 0 := h0.1
    refine u94_44.trans ?_
    simp only [u94_0, u94_1, u94_4, u94_5, u94_8, u94_9, u94_10, u94_13, u94_14, u94_17, u94_18, u94_19, u94_20, u94_21, u94_24, u94_26, u94_29, u94_31, u94_32, u94_33, u94_35, u94_36, u94_38, u94_39, u94_40, u94_41, u94_46, u94_47, u94_50, u94_51, u94_52, u94_55, u94_57, u94_60, u94_62, u94_63, u94_66, u94_67, u94_70, u94_71, u94_74, u94_75, u94_77, u94_79, u94_82, u94_85, u94_86, u94_87, u94_90, u94_91, u94_93, u94_95, u94_98, u94_101, u94_102, u94_104, u94_106, u94_109, u94_111, u94_113, u94_114, u94_117, u94_119, u94_121, u94_122, u94_123, u94_126, u94_128, u94_129, u94_130, u94_132, u94_134, u94_135, u94_138, u94_139, u94_140, u94_143, u94_144, u94_145, u94_147, u94_150, u94_151, u94_152, u94_153, u94_154, u94_156, u94_159, u94_161, u94_164, u94_166, u94_167, u94_170, u94_173, u94_174, hBt, hct, hg1, true_and, show ¬ nI 0 < nI 0 by decide, if_false, show nI 0 ≤ nI 0 by decide, if_true]
  · rw [if_neg q, show kpS 1 = 7 from rfl, show mostN 1 = 8 from rfl]
    exact p_key1 8 0 0 _ none rfl rfl (Or.inl (by omega)) h0
theorem p_step2 {n k p : Nat} {b : Nat → Nat} {l : Option Value} (h : Ux 2 n b m) (hk9 : k < 6) (hp9 : p < 1000) (hq : p < n ∨ 0 < p) : T S (f + 4) 94 44 [some (.ref 73), some (.int (nI 2)), some (.int (nI 5)), some (.int (nI 6)), some (.int (nI k)), some (.int (nI p)), l] [] m Rt = T S (f + 4) 94 111 [some (.ref 73), some (.int (nI 2)), some (.int (nI 5)), some (.int (nI 6)), some (.int (nI k)), some (.int (nI p)), some (.int (nI (shpV n b p)))] [] (shpW n b k p m) Rt := by
  have hBt : inB (nI 2) 3 = true := inB8 (by decide) (by decide)
  have hct : (nI 2).toNatClampNeg = 2 := nI_cl8 (by decide)
  have hn := h.2.1
  have hc := tcap_le (show 2 ≤ 2 by decide)
  have hkm : (nI k = nI 6) = False := by rw [nI_eq8 (by omega) (by omega)]; exact eq_false (by omega)
  have hkb : k < 7 := by omega
  have e1 := fun Rt => s_mShp (S := S) (f := f) (Rt := Rt) h hkb hp9
  refine u94_44.trans ?_
  by_cases q : p < n
  · simp (disch := omega) only [u94_0, u94_1, u94_4, u94_5, u94_8, u94_9, u94_10, u94_13, u94_14, u94_17, u94_18, u94_19, u94_20, u94_21, u94_24, u94_26, u94_29, u94_31, u94_32, u94_33, u94_35, u94_36, u94_38, u94_39, u94_40, u94_41, u94_46, u94_47, u94_50, u94_51, u94_52, u94_55, u94_57, u94_60, u94_62, u94_63, u94_66, u94_67, u94_70, u94_71, u94_74, u94_75, u94_77, u94_79, u94_82, u94_85, u94_86, u94_87, u94_90, u94_91, u94_93, u94_95, u94_98, u94_101, u94_102, u94_104, u94_106, u94_109, u94_113, u94_114, u94_117, u94_119, u94_121, u94_122, u94_123, u94_126, u94_128, u94_129, u94_130, u94_132, u94_134, u94_135, u94_138, u94_139, u94_140, u94_143, u94_144, u94_145, u94_147, u94_150, u94_151, u94_152, u94_153, u94_154, u94_156, u94_159, u94_161, u94_164, u94_166, u94_167, u94_170, u94_173, u94_174, hBt, hct, h.1, true_and, nI_lt8, q, if_true, show ¬ nI 2 = nI 0 by decide, show ¬ nI 2 = nI 1 by decide, if_false, hkm, e1, pu_some, pu_none]
  · have h0 : ¬ p ≤ 0 := by omega
    simp (disch := omega) only [u94_0, u94_1, u94_4, u94_5, u94_8, u94_9, u94_10, u94_13, u94_14, u94_17, u94_18, u94_19, u94_20, u94_21, u94_24, u94_26, u94_29, u94_31, u94_32, u94_33, u94_35, u94_36, u94_38, u94_39, u94_40, u94_41, u94_46, u94_47, u94_50, u94_51, u94_52, u94_55, u94_57, u94_60, u94_62, u94_63, u94_66, u94_67, u94_70, u94_71, u94_74, u94_75, u94_77, u94_79, u94_82, u94_85, u94_86, u94_87, u94_90, u94_91, u94_93, u94_95, u94_98, u94_101, u94_102, u94_104, u94_106, u94_109, u94_113, u94_114, u94_117, u94_119, u94_121, u94_122, u94_123, u94_126, u94_128, u94_129, u94_130, u94_132, u94_134, u94_135, u94_138, u94_139, u94_140, u94_143, u94_144, u94_145, u94_147, u94_150, u94_151, u94_152, u94_153, u94_154, u94_156, u94_159, u94_161, u94_164, u94_166, u94_167, u94_170, u94_173, u94_174, hBt, hct, h.1, true_and, nI_lt8, nI_le8, q, h0, if_true, show ¬ nI 2 = nI 0 by decide, show ¬ nI 2 = nI 1 by decide, if_false, hkm, e1, pu_some, pu_none]
set_option maxHeartbeats 1000000 in
theorem p_key2 {n : Nat} {b : Nat → Nat} : ∀ (r k p : Nat) (m : AMem) (l : Option Value), k + r = 6 → p = k * 6 → (p < n ∨ 0 < p) → Ux 2 n b m → T S (f + 4) 94 44 [some (.ref 73), some (.int (nI 2)), some (.int (nI 5)), some (.int (nI 6)), some (.int (nI k)), some (.int (nI p)), l] [] m Rt = Rt (some (.int (partsR 2 n b r k p m).1)) (partsR 2 n b r k p m).2 := by
  have hBt : inB (nI 2) 3 = true := inB8 (by decide) (by decide)
  have hct : (nI 2).toNatClampNeg = 2 := nI_cl8 (by decide)
  have eV : ∀ p, goV 2 n b p = shpV n b p := fun p => by unfold goV; rw [if_neg (by decide), if_neg (by decide)]
  have eW : ∀ k p m, goW 2 n b k p m = shpW n b k p m := fun k p m => by unfold goW; rw [if_neg (by decide), if_neg (by decide)]
  intro r
  induction r with
  | zero =>
    intro k p m l hk hp hq h
    have hn := h.2.1
    have hc := tcap_le (show 2 ≤ 2 by decide)
    have hk2 : k = 6 := by omega
    subst hk2
    have h0 : ¬ p ≤ 0 := by omega
    have hz : ¬ 5 ≤ 0 := by decide
    refine u94_44.trans ?_
    by_cases q : p < n
    · simp (disch := omega) only [u94_0, u94_1, u94_4, u94_5, u94_8, u94_9, u94_10, u94_13, u94_14, u94_17, u94_18, u94_19, u94_20, u94_21, u94_24, u94_26, u94_29, u94_31, u94_32, u94_33, u94_35, u94_36, u94_38, u94_39, u94_40, u94_41, u94_46, u94_47, u94_50, u94_51, u94_52, u94_55, u94_57, u94_60, u94_62, u94_63, u94_66, u94_67, u94_70, u94_71, u94_74, u94_75, u94_77, u94_79, u94_82, u94_85, u94_86, u94_87, u94_90, u94_91, u94_93, u94_95, u94_98, u94_101, u94_102, u94_104, u94_106, u94_109, u94_111, u94_113, u94_114, u94_117, u94_119, u94_121, u94_122, u94_123, u94_126, u94_128, u94_129, u94_130, u94_132, u94_134, u94_135, u94_138, u94_139, u94_140, u94_143, u94_144, u94_145, u94_147, u94_150, u94_151, u94_152, u94_153, u94_154, u94_156, u94_159, u94_161, u94_164, u94_166, u94_167, u94_170, u94_173, u94_174, hBt, hct, h.1, true_and, nI_lt8, nI_le8, q, if_true, show ¬ nI 2 = nI 0 by decide, show ¬ nI 2 = nI 1 by decide, if_false, hz, nI_add, Nat.add_zero, partsR]
    · simp (disch := omega) only [u94_0, u94_1, u94_4, u94_5, u94_8, u94_9, u94_10, u94_13, u94_14, u94_17, u94_18, u94_19, u94_20, u94_21, u94_24, u94_26, u94_29, u94_31, u94_32, u94_33, u94_35, u94_36, u94_38, u94_39, u94_40, u94_41, u94_46, u94_47, u94_50, u94_51, u94_52, u94_55, u94_57, u94_60, u94_62, u94_63, u94_66, u94_67, u94_70, u94_71, u94_74, u94_75, u94_77, u94_79, u94_82, u94_85, u94_86, u94_87, u94_90, u94_91, u94_93, u94_95, u94_98, u94_101, u94_102, u94_104, u94_106, u94_109, u94_111, u94_113, u94_114, u94_117, u94_119, u94_121, u94_122, u94_123, u94_126, u94_128, u94_129, u94_130, u94_132, u94_134, u94_135, u94_138, u94_139, u94_140, u94_143, u94_144, u94_145, u94_147, u94_150, u94_151, u94_152, u94_153, u94_154, u94_156, u94_159, u94_161, u94_164, u94_166, u94_167, u94_170, u94_173, u94_174, hBt, hct, h.1, true_and, nI_lt8, nI_le8, q, h0, if_true, show ¬ nI 2 = nI 0 by decide, show ¬ nI 2 = nI 1 by decide, if_false, hz, nI_add, Nat.add_zero, partsR]
  | succ r ih =>
    intro k p m l hk hp hq h
    have hn := h.2.1
    have hc := tcap_le (show 2 ≤ 2 by decide)
    have hk9 : k < 7 := by omega
    have hp9 : p < 1000 := by omega
    have hle := shp_le (n := n) (p := p) (b := b)
    have hg : Ux 2 n b (shpW n b k p m) := by rw [← eW]; exact Ux_go h
    have hst : 6 ≤ 8 := by decide
    have step := p_step2 (S := S) (f := f) (Rt := Rt) (l := l) h (show k < 6 by omega) hp9 hq
    rw [step]
    unfold partsR
    rw [eV, eW, show szN 2 = 5 from rfl, show kpS 2 = 10 from rfl]
    have pb : p + 5 < 2147483648 := by omega
    have e2 := fun Rt => s_mByte (S := S) (f := f + 2) (Rt := Rt) hg (show 2 ≤ 2 by decide) pb
    by_cases q1 : shpV n b p < 5
    · have q1' : ¬ 5 ≤ shpV n b p := by omega
      simp (disch := omega) only [u94_0, u94_1, u94_4, u94_5, u94_8, u94_9, u94_10, u94_13, u94_14, u94_17, u94_18, u94_19, u94_20, u94_21, u94_24, u94_26, u94_29, u94_31, u94_32, u94_33, u94_35, u94_36, u94_38, u94_39, u94_40, u94_41, u94_46, u94_47, u94_50, u94_51, u94_52, u94_55, u94_57, u94_60, u94_62, u94_63, u94_66, u94_67, u94_70, u94_71, u94_74, u94_75, u94_77, u94_79, u94_82, u94_85, u94_86, u94_87, u94_90, u94_91, u94_93, u94_95, u94_98, u94_101, u94_102, u94_104, u94_106, u94_109, u94_111, u94_113, u94_114, u94_117, u94_119, u94_121, u94_122, u94_123, u94_126, u94_128, u94_129, u94_130, u94_132, u94_134, u94_135, u94_138, u94_139, u94_140, u94_143, u94_144, u94_145, u94_147, u94_150, u94_151, u94_152, u94_153, u94_154, u94_156, u94_159, u94_161, u94_164, u94_166, u94_167, u94_170, u94_173, u94_174, nI_le8, q1, q1', if_false, if_true, nI_add]
    · have q1' : 5 ≤ shpV n b p := by omega
      by_cases q2 : p + 5 = n
      · simp (disch := omega) only [u94_0, u94_1, u94_4, u94_5, u94_8, u94_9, u94_10, u94_13, u94_14, u94_17, u94_18, u94_19, u94_20, u94_21, u94_24, u94_26, u94_29, u94_31, u94_32, u94_33, u94_35, u94_36, u94_38, u94_39, u94_40, u94_41, u94_46, u94_47, u94_50, u94_51, u94_52, u94_55, u94_57, u94_60, u94_62, u94_63, u94_66, u94_67, u94_70, u94_71, u94_74, u94_75, u94_77, u94_79, u94_82, u94_85, u94_86, u94_87, u94_90, u94_91, u94_93, u94_95, u94_98, u94_101, u94_102, u94_104, u94_106, u94_109, u94_111, u94_113, u94_114, u94_117, u94_119, u94_121, u94_122, u94_123, u94_126, u94_128, u94_129, u94_130, u94_132, u94_134, u94_135, u94_138, u94_139, u94_140, u94_143, u94_144, u94_145, u94_147, u94_150, u94_151, u94_152, u94_153, u94_154, u94_156, u94_159, u94_161, u94_164, u94_166, u94_167, u94_170, u94_173, u94_174, nI_le8, q1, q1', if_false, if_true, nI_add, hBt, hct, hg.1, true_and, nI_eq8, q2, s_mKeeps2, pu_some, pu_none]
      · by_cases q3 : byV n b (p + 5) = nI 59
        · simp (disch := omega) only [u94_0, u94_1, u94_4, u94_5, u94_8, u94_9, u94_10, u94_13, u94_14, u94_17, u94_18, u94_19, u94_20, u94_21, u94_24, u94_26, u94_29, u94_31, u94_32, u94_33, u94_35, u94_36, u94_38, u94_39, u94_40, u94_41, u94_46, u94_47, u94_50, u94_51, u94_52, u94_55, u94_57, u94_60, u94_62, u94_63, u94_66, u94_67, u94_70, u94_71, u94_74, u94_75, u94_77, u94_79, u94_82, u94_85, u94_86, u94_87, u94_90, u94_91, u94_93, u94_95, u94_98, u94_101, u94_102, u94_104, u94_106, u94_109, u94_111, u94_113, u94_114, u94_117, u94_119, u94_121, u94_122, u94_123, u94_126, u94_128, u94_129, u94_130, u94_132, u94_134, u94_135, u94_138, u94_139, u94_140, u94_143, u94_144, u94_145, u94_147, u94_150, u94_151, u94_152, u94_153, u94_154, u94_156, u94_159, u94_161, u94_164, u94_166, u94_167, u94_170, u94_173, u94_174, nI_le8, q1, q1', if_false, if_true, nI_add, hBt, hct, hg.1, true_and, nI_eq8, q2, e2, q3, pu_some, pu_none]
          exact ih (k + 1) (p + 5 + 1) _ _ (by omega) (by omega) (by omega) hg
        · simp (disch := omega) only [u94_0, u94_1, u94_4, u94_5, u94_8, u94_9, u94_10, u94_13, u94_14, u94_17, u94_18, u94_19, u94_20, u94_21, u94_24, u94_26, u94_29, u94_31, u94_32, u94_33, u94_35, u94_36, u94_38, u94_39, u94_40, u94_41, u94_46, u94_47, u94_50, u94_51, u94_52, u94_55, u94_57, u94_60, u94_62, u94_63, u94_66, u94_67, u94_70, u94_71, u94_74, u94_75, u94_77, u94_79, u94_82, u94_85, u94_86, u94_87, u94_90, u94_91, u94_93, u94_95, u94_98, u94_101, u94_102, u94_104, u94_106, u94_109, u94_111, u94_113, u94_114, u94_117, u94_119, u94_121, u94_122, u94_123, u94_126, u94_128, u94_129, u94_130, u94_132, u94_134, u94_135, u94_138, u94_139, u94_140, u94_143, u94_144, u94_145, u94_147, u94_150, u94_151, u94_152, u94_153, u94_154, u94_156, u94_159, u94_161, u94_164, u94_166, u94_167, u94_170, u94_173, u94_174, nI_le8, q1, q1', if_false, if_true, nI_add, hBt, hct, hg.1, true_and, nI_eq8, q2, e2, q3, pu_some, pu_none]
theorem s_mParts2 {n : Nat} {b : Nat → Nat} (h : Ux 2 n b m) : T S (f + 4) 94 0 [some (.ref 73), some (.int (nI 2)), none, none, none, none, none] [] m Rt = Rt (some (.int (partsM 2 n b m).1)) (partsM 2 n b m).2 := by
  have hBt : inB (nI 2) 3 = true := inB8 (by decide) (by decide)
  have hct : (nI 2).toNatClampNeg = 2 := nI_cl8 (by decide)
  have h0 : Ux 2 n b (up m 73 10 (nI 0)) := Ux_up h (by decide) (by decide)
  have head : T S (f + 4) 94 0 [some (.ref 73), some (.int (nI 2)), none, none, none, none, none] [] m Rt = T S (f + 4) 94 44 [some (.ref 73), some (.int (nI 2)), some (.int (nI 5)), some (.int (nI 6)), some (.int (nI 0)), some (.int (nI 0)), none] [] (up m 73 10 (nI 0)) Rt := by
    simp only [u94_0, u94_1, u94_4, u94_5, u94_8, u94_9, u94_10, u94_13, u94_14, u94_17, u94_18, u94_19, u94_20, u94_21, u94_24, u94_26, u94_29, u94_31, u94_32, u94_33, u94_35, u94_36, u94_38, u94_39, u94_40, u94_41, u94_46, u94_47, u94_50, u94_51, u94_52, u94_55, u94_57, u94_60, u94_62, u94_63, u94_66, u94_67, u94_70, u94_71, u94_74, u94_75, u94_77, u94_79, u94_82, u94_85, u94_86, u94_87, u94_90, u94_91, u94_93, u94_95, u94_98, u94_101, u94_102, u94_104, u94_106, u94_109, u94_111, u94_113, u94_114, u94_117, u94_119, u94_121, u94_122, u94_123, u94_126, u94_128, u94_129, u94_130, u94_132, u94_134, u94_135, u94_138, u94_139, u94_140, u94_143, u94_144, u94_145, u94_147, u94_150, u94_151, u94_152, u94_153, u94_154, u94_156, u94_159, u94_161, u94_164, u94_166, u94_167, u94_170, u94_173, u94_174, if_true, if_false, show ¬ nI 2 = nI 0 by decide, show ¬ nI 2 = nI 1 by decide, s_mKeeps2, pu_some, pu_none]
  rw [head]
  unfold partsM
  have hn := h.2.1
  have hc := tcap_le (show 2 ≤ 2 by decide)
  by_cases q : n = 0
  · subst q
    rw [if_pos (show 0 = 0 from rfl), show kpS 2 = 10 from rfl]
    have hg1 : up m 73 10 (nI 0) 74 2 = nI 0 := h0.1
    refine u94_44.trans ?_
    simp only [u94_0, u94_1, u94_4, u94_5, u94_8, u94_9, u94_10, u94_13, u94_14, u94_17, u94_18, u94_19, u94_20, u94_21, u94_24, u94_26, u94_29, u94_31, u94_32, u94_33, u94_35, u94_36, u94_38, u94_39, u94_40, u94_41, u94_46, u94_47, u94_50, u94_51, u94_52, u94_55, u94_57, u94_60, u94_62, u94_63, u94_66, u94_67, u94_70, u94_71, u94_74, u94_75, u94_77, u94_79, u94_82, u94_85, u94_86, u94_87, u94_90, u94_91, u94_93, u94_95, u94_98, u94_101, u94_102, u94_104, u94_106, u94_109, u94_111, u94_113, u94_114, u94_117, u94_119, u94_121, u94_122, u94_123, u94_126, u94_128, u94_129, u94_130, u94_132, u94_134, u94_135, u94_138, u94_139, u94_140, u94_143, u94_144, u94_145, u94_147, u94_150, u94_151, u94_152, u94_153, u94_154, u94_156, u94_159, u94_161, u94_164, u94_166, u94_167, u94_170, u94_173, u94_174, hBt, hct, hg1, true_and, show ¬ nI 0 < nI 0 by decide, if_false, show nI 0 ≤ nI 0 by decide, if_true]
  · rw [if_neg q, show kpS 2 = 10 from rfl, show mostN 2 = 6 from rfl]
    exact p_key2 6 0 0 _ none rfl rfl (Or.inl (by omega)) h0
/-- all three texts read -/
def faultM (n0 n1 n2 : Nat) (b0 b1 b2 : Nat → Nat) (m : AMem) : AMem := (partsM 2 n2 b2 (partsM 1 n1 b1 (partsM 0 n0 b0 m).2).2).2
def faultI (n0 n1 n2 : Nat) (b0 b1 b2 : Nat → Nat) (t : Nat) (m : AMem) : Int32 := if t = 0 then (partsM 0 n0 b0 m).1 else if t = 1 then (partsM 1 n1 b1 (partsM 0 n0 b0 m).2).1 else (partsM 2 n2 b2 (partsM 1 n1 b1 (partsM 0 n0 b0 m).2).2).1
section
variable {n0 n1 n2 : Nat} {b0 b1 b2 : Nat → Nat}
theorem s_mFaultOf (h0 : Ux 0 n0 b0 m) (h1 : Ux 1 n1 b1 m) (h2 : Ux 2 n2 b2 m) {t : Nat} (ht : t < 3) : T S (f + 5) 93 0 [some (.ref 73), some (.int (nI t)), none, none, none] [] m Rt = Rt (some (.int (faultI n0 n1 n2 b0 b1 b2 t m))) (faultM n0 n1 n2 b0 b1 b2 m) := by
  have k1 : Ux 1 n1 b1 (partsM 0 n0 b0 m).2 := Ux_parts h1
  have k2 : Ux 2 n2 b2 (partsM 1 n1 b1 (partsM 0 n0 b0 m).2).2 := Ux_parts (Ux_parts h2)
  unfold faultI faultM
  match t, ht with
  | 0, _ => simp only [u93_0, u93_1, u93_2, u93_5, u93_6, u93_7, u93_8, u93_11, u93_12, u93_13, u93_14, u93_17, u93_19, u93_20, u93_23, u93_24, u93_27, u93_28, u93_29, u93_32, u93_33, u93_36, u93_38, s_mParts0 h0, s_mParts1 k1, s_mParts2 k2, pu_some, pu_none, if_true]
  | 1, _ => simp only [u93_0, u93_1, u93_2, u93_5, u93_6, u93_7, u93_8, u93_11, u93_12, u93_13, u93_14, u93_17, u93_19, u93_20, u93_23, u93_24, u93_27, u93_28, u93_29, u93_32, u93_33, u93_36, u93_38, s_mParts0 h0, s_mParts1 k1, s_mParts2 k2, pu_some, pu_none, if_true, if_false, show ¬ nI 1 = nI 0 by decide, show ¬ 1 = 0 by decide]
  | 2, _ => simp only [u93_0, u93_1, u93_2, u93_5, u93_6, u93_7, u93_8, u93_11, u93_12, u93_13, u93_14, u93_17, u93_19, u93_20, u93_23, u93_24, u93_27, u93_28, u93_29, u93_32, u93_33, u93_36, u93_38, s_mParts0 h0, s_mParts1 k1, s_mParts2 k2, pu_some, pu_none, if_false, show ¬ nI 2 = nI 0 by decide, show ¬ nI 2 = nI 1 by decide, show ¬ 2 = 0 by decide, show ¬ 2 = 1 by decide]
theorem s_mReads (h0 : Ux 0 n0 b0 m) (h1 : Ux 1 n1 b1 m) (h2 : Ux 2 n2 b2 m) : T S (f + 6) 103 0 [some (.ref 73), none] [] m Rt = Rt none (faultM n0 n1 n2 b0 b1 b2 m) := by
  have z : 0 < 3 := by decide
  simp only [u103_0, u103_1, u103_2, u103_5, u103_6, s_mFaultOf h0 h1 h2 z, pu_some, pu_none]
end
end READS
