section DGM
variable {S : AScr} {m m2 m3 M X : AMem} {N : Nat → Nat} {B : Nat → Nat → Nat}
theorem MQt_w (h : MQt N B M) : MQw N B M := by
  obtain ⟨x, hx⟩ := h
  refine ⟨wA N B x, hx, fun i k h1 h2 => ?_⟩
  unfold w0 wA wT
  rw [if_neg (show ¬ i = 0 by omega), if_neg (show ¬ i = 0 by omega)]
theorem w_cnt (h : MQw N B M) : M 73 2 = nI (mN N B) ∧ M 73 7 = nI (iN N B) ∧ M 73 10 = nI (fN N B) := by
  obtain ⟨w', hx, _⟩ := h
  exact hx.1
theorem w_inn (h : MQw N B M) {k i : Nat} (hk : k < iN N B) (hi : 5 ≤ i ∧ i ≤ 6) : M (75 + i) k = w0 N B i k := by
  obtain ⟨w', hx, hw⟩ := h
  rw [hx.2.2.2.1 i k (by omega) (by omega) hk]
  exact hw i k (by omega) (by omega)
theorem w_ship (h : MQw N B M) {k i : Nat} (hk : k < fN N B) (hi : 7 ≤ i ∧ i ≤ 10) : M (75 + i) k = w0 N B i k := by
  obtain ⟨w', hx, hw⟩ := h
  rw [hx.2.2.2.2 i k (by omega) (by omega) hk]
  exact hw i k (by omega) (by omega)
theorem w_man (h : MQt N B M) {k i : Nat} (hk : k < mN N B) (hi : 1 ≤ i ∧ i ≤ 4) : M (75 + i) k = w0 N B i k := by
  obtain ⟨x, hx⟩ := h
  rw [hx.2.2.1 i k (by omega) (by omega) hk]
  unfold w0 wA wT
  rw [if_neg (show ¬ i = 0 by omega), if_neg (show ¬ i = 0 by omega)]
theorem mso_v (h : MQt N B M) {k i : Nat} (hk : k < mN N B) (hi : i < 4) : msailorOfV k (nI i) M = w0 N B (1 + i) k := by
  unfold msailorOfV
  rcases (show i = 0 ∨ i = 1 ∨ i = 2 ∨ i = 3 by omega) with rfl | rfl | rfl | rfl
  · rw [if_pos rfl]; exact w_man h hk (i := 1) (by decide)
  · rw [if_neg (show ¬ nI 1 = nI 0 by decide), if_pos rfl]; exact w_man h hk (i := 2) (by decide)
  · rw [if_neg (show ¬ nI 2 = nI 0 by decide), if_neg (show ¬ nI 2 = nI 1 by decide), if_pos rfl]; exact w_man h hk (i := 3) (by decide)
  · rw [if_neg (show ¬ nI 3 = nI 0 by decide), if_neg (show ¬ nI 3 = nI 1 by decide), if_neg (show ¬ nI 3 = nI 2 by decide)]; exact w_man h hk (i := 4) (by decide)
theorem mho_v (h : MQw N B M) {k i : Nat} (hk : k < fN N B) (hi : i < 4) : mshipOfV k (nI i) M = w0 N B (7 + i) k := by
  unfold mshipOfV
  rcases (show i = 0 ∨ i = 1 ∨ i = 2 ∨ i = 3 by omega) with rfl | rfl | rfl | rfl
  · rw [if_pos rfl]; exact w_ship h hk (i := 7) (by decide)
  · rw [if_neg (show ¬ nI 1 = nI 0 by decide), if_pos rfl]; exact w_ship h hk (i := 8) (by decide)
  · rw [if_neg (show ¬ nI 2 = nI 0 by decide), if_neg (show ¬ nI 2 = nI 1 by decide), if_pos rfl]; exact w_ship h hk (i := 9) (by decide)
  · rw [if_neg (show ¬ nI 3 = nI 0 by decide), if_neg (show ¬ nI 3 = nI 1 by decide), if_neg (show ¬ nI 3 = nI 2 by decide)]; exact w_ship h hk (i := 10) (by decide)
set_option maxHeartbeats 2000000 in
theorem g_sailor (h : Bs N B m) (hq : MQt N B m) {k : Nat} (hk : k < mN N B) {g : Int64} : ∃ m1, Km m m1 ∧ MQt N B m1 ∧ ∀ (f : Nat) (Rt : Option Value → AMem → Prop), T S (f + 9) 175 0 [some (.ref 73), some (.long g), none, some (.int (nI k)), none, none, none] [] m Rt = Rt (some (.long (sd2 N B (sd1 N B g k) k))) m1 := by
  have h8 := (Bs_m8 h).1
  have e0 := fun (f : Nat) (Rt : Option Value → AMem → Prop) => it_run (fun i (s : Int64) => T S (f + 9) 175 6 [some (.ref 73), some (.long g), none, some (.int (nI k)), some (.long s), none, some (.int (nI i))] [] m Rt) (fun w g => mx g (w0 N B (1 + w) k).toInt64) (fun _ _ => True) 4 (fun _ _ _ _ => trivial) (fun i hi s _ => by
    have hle : ¬ 4 ≤ i := by omega
    have em := mso_v hq hk hi
    refine u175_6.trans ?_
    simp (disch := omega) only [u175_0, u175_1, u175_3, u175_4, u175_8, u175_9, u175_12, u175_15, u175_17, u175_18, u175_19, u175_20, u175_22, u175_25, u175_26, u175_27, u175_29, u175_32, u175_35, u175_38, u175_40, u175_41, u175_42, u175_44, u175_45, u175_48, u175_49, u175_50, u175_52, u175_55, u175_57, u175_58, u175_59, u175_61, u175_62, u175_65, u175_66, u175_67, u175_69, u175_72, u175_74, u175_75, u175_76, u175_78, u175_79, u175_82, u175_83, u175_84, u175_86, u175_89, u175_91, u175_92, u175_93, u175_95, u175_96, u175_99, u175_100, u175_101, u175_103, u175_106, u175_108, u175_109, u175_110, u175_112, u175_113, u175_116, u175_117, u175_118, u175_120, u175_123, u175_125, u175_126, u175_127, u175_128, u175_129, u175_132, u175_133, u175_134, u175_136, u175_139, u175_141, u175_142, u175_143, u175_144, u175_145, u175_148, u175_149, u175_150, u175_152, u175_153, u175_154, u175_157, u175_159, u175_162, u175_164, u175_165, u175_167, u175_168, u175_169, u175_171, u175_174, u175_176, u175_177, u175_178, u175_180, u175_181, u175_184, u175_185, u175_186, u175_188, u175_191, u175_193, u175_194, u175_195, u175_196, u175_197, u175_200, u175_201, u175_202, u175_204, u175_207, u175_209, u175_210, u175_211, u175_212, u175_213, u175_216, u175_217, u175_218, u175_220, u175_223, u175_225, u175_226, u175_227, u175_228, u175_229, u175_231, u175_232, u175_235, u175_236, u175_238, u175_241, u175_243, u175_244, u175_245, u175_246, u175_247, u175_249, u175_250, u175_253, u175_254, nI_le8, hle, if_false, s_msailorOf (show k < 9 by omega), em, pu_some, pu_none, nI_add]
    rfl) g trivial
  have hrow : it 4 (fun w g => mx g (w0 N B (1 + w) k).toInt64) g = rowD N B 1 4 k g := rfl
  rw [hrow] at e0
  obtain ⟨m1, k1, q1, e1⟩ := q_owesOf (S := S) h (show 9 < 30 by decide) hk
  have b1 := Bs_m h k1
  have kk1 := k1
  obtain ⟨m2, k2, q2, e2⟩ := q_owesOf (S := S) b1 (show 29 < 30 by decide) hk
  have b2 := Bs_m b1 k2
  have kk2 := Km_t kk1 k2
  obtain ⟨m3, k3, q3, e3⟩ := q_purseOf (S := S) b2 (show 9 < 30 by decide) hk
  have b3 := Bs_m b2 k3
  have kk3 := Km_t kk2 k3
  obtain ⟨m4, k4, q4, e4⟩ := q_whereOf (S := S) b3 (show 9 < 30 by decide) hk
  have b4 := Bs_m b3 k4
  have kk4 := Km_t kk3 k4
  obtain ⟨m5, k5, q5, e5⟩ := q_whereOf (S := S) b4 (show 29 < 30 by decide) hk
  have b5 := Bs_m b4 k5
  have kk5 := Km_t kk4 k5
  obtain ⟨m6, k6, q6, e6⟩ := q_lodgeOf (S := S) (v := nI 0) b5 hk
  have b6 := Bs_m b5 k6
  have kk6 := Km_t kk5 k6
  obtain ⟨m7, k7, q7, e7⟩ := q_lodgeOf (S := S) (v := nI 1) b6 hk
  have b7 := Bs_m b6 k7
  have kk7 := Km_t kk6 k7
  obtain ⟨m8, k8, q8, hle8, e8⟩ := q_leaveBy (S := S) b7 hk
  have b8 := Bs_m b7 k8
  have kk8 := Km_t kk7 k8
  obtain ⟨m9, k9, q9, e9⟩ := q_wasOf (S := S) (v := nI 0) b8 hk (Or.inl rfl)
  have b9 := Bs_m b8 k9
  have kk9 := Km_t kk8 k9
  obtain ⟨m10, k10, q10, e10⟩ := q_wasOf (S := S) (v := nI 1) b9 hk (Or.inr rfl)
  have b10 := Bs_m b9 k10
  have kk10 := Km_t kk9 k10
  obtain ⟨m11, k11, q11, e11⟩ := q_stormOf (S := S) (c := 5) (day := 20) (v := nI 0) b10 (by decide) hk (by decide)
  have b11 := Bs_m b10 k11
  have kk11 := Km_t kk10 k11
  obtain ⟨m12, k12, q12, e12⟩ := q_stormOf (S := S) (c := 5) (day := 20) (v := nI 1) b11 (by decide) hk (by decide)
  have b12 := Bs_m b11 k12
  have kk12 := Km_t kk11 k12
  have eo := fun f Rt => q_ofRow (S := S) (f := f) (Rt := Rt) (i := nI 0) hle8 (fun n a b z => leN_n z) (Or.inr (Or.inl rfl))
  have el : leI (leN (stL N B k) (fN N B)) = leV (-1) (leN (stL N B k) (fN N B)) := by
    cases leN (stL N B k) (fN N B) with
    | none => rfl
    | some p =>
      obtain ⟨a, b, c⟩ := p
      rfl
  refine ⟨m12, kk12, q12, fun f Rt => ?_⟩
  refine Eq.trans ?_ ((e0 f Rt).trans ?_)
  · simp only [u175_0, u175_1, u175_3, u175_4, u175_8, u175_9, u175_12, u175_15, u175_17, u175_18, u175_19, u175_20, u175_22, u175_25, u175_26, u175_27, u175_29, u175_32, u175_35, u175_38, u175_40, u175_41, u175_42, u175_44, u175_45, u175_48, u175_49, u175_50, u175_52, u175_55, u175_57, u175_58, u175_59, u175_61, u175_62, u175_65, u175_66, u175_67, u175_69, u175_72, u175_74, u175_75, u175_76, u175_78, u175_79, u175_82, u175_83, u175_84, u175_86, u175_89, u175_91, u175_92, u175_93, u175_95, u175_96, u175_99, u175_100, u175_101, u175_103, u175_106, u175_108, u175_109, u175_110, u175_112, u175_113, u175_116, u175_117, u175_118, u175_120, u175_123, u175_125, u175_126, u175_127, u175_128, u175_129, u175_132, u175_133, u175_134, u175_136, u175_139, u175_141, u175_142, u175_143, u175_144, u175_145, u175_148, u175_149, u175_150, u175_152, u175_153, u175_154, u175_157, u175_159, u175_162, u175_164, u175_165, u175_167, u175_168, u175_169, u175_171, u175_174, u175_176, u175_177, u175_178, u175_180, u175_181, u175_184, u175_185, u175_186, u175_188, u175_191, u175_193, u175_194, u175_195, u175_196, u175_197, u175_200, u175_201, u175_202, u175_204, u175_207, u175_209, u175_210, u175_211, u175_212, u175_213, u175_216, u175_217, u175_218, u175_220, u175_223, u175_225, u175_226, u175_227, u175_228, u175_229, u175_231, u175_232, u175_235, u175_236, u175_238, u175_241, u175_243, u175_244, u175_245, u175_246, u175_247, u175_249, u175_250, u175_253, u175_254]
  · refine u175_6.trans ?_
    simp (disch := omega) only [u175_0, u175_1, u175_3, u175_4, u175_8, u175_9, u175_12, u175_15, u175_17, u175_18, u175_19, u175_20, u175_22, u175_25, u175_26, u175_27, u175_29, u175_32, u175_35, u175_38, u175_40, u175_41, u175_42, u175_44, u175_45, u175_48, u175_49, u175_50, u175_52, u175_55, u175_57, u175_58, u175_59, u175_61, u175_62, u175_65, u175_66, u175_67, u175_69, u175_72, u175_74, u175_75, u175_76, u175_78, u175_79, u175_82, u175_83, u175_84, u175_86, u175_89, u175_91, u175_92, u175_93, u175_95, u175_96, u175_99, u175_100, u175_101, u175_103, u175_106, u175_108, u175_109, u175_110, u175_112, u175_113, u175_116, u175_117, u175_118, u175_120, u175_123, u175_125, u175_126, u175_127, u175_128, u175_129, u175_132, u175_133, u175_134, u175_136, u175_139, u175_141, u175_142, u175_143, u175_144, u175_145, u175_148, u175_149, u175_150, u175_152, u175_153, u175_154, u175_157, u175_159, u175_162, u175_164, u175_165, u175_167, u175_168, u175_169, u175_171, u175_174, u175_176, u175_177, u175_178, u175_180, u175_181, u175_184, u175_185, u175_186, u175_188, u175_191, u175_193, u175_194, u175_195, u175_196, u175_197, u175_200, u175_201, u175_202, u175_204, u175_207, u175_209, u175_210, u175_211, u175_212, u175_213, u175_216, u175_217, u175_218, u175_220, u175_223, u175_225, u175_226, u175_227, u175_228, u175_229, u175_231, u175_232, u175_235, u175_236, u175_238, u175_241, u175_243, u175_244, u175_245, u175_246, u175_247, u175_249, u175_250, u175_253, u175_254, nI_le8, Nat.le_refl, if_true, e1, e2, e3, e4, e5, e6, e7, e8, e9, e10, e11, e12, eo, pu_some, pu_none]
    rw [el]
    rfl
set_option maxHeartbeats 1000000 in
theorem g_house (h : Bs N B m) (hq : MQw N B m) {k : Nat} (hk : k < iN N B) {g : Int64} : ∃ m1, Km m m1 ∧ MQw N B m1 ∧ ∀ (f : Nat) (Rt : Option Value → AMem → Prop), T S (f + 9) 176 0 [some (.ref 73), some (.long g), none, some (.int (nI k)), none, none] [] m Rt = Rt (some (.long (hd1 N B g k))) m1 := by
  have h8 := (Bs_m8 h).2.1
  have hB9 : inB (nI k) 9 = true := inB8 (by omega) (by decide)
  have hck : (nI k).toNatClampNeg = k := nI_cl8 (by omega)
  have w5 : m 80 k = w0 N B 5 k := w_inn hq hk (i := 5) (by decide)
  have w6 : m 81 k = w0 N B 6 k := w_inn hq hk (i := 6) (by decide)
  obtain ⟨m1, k1, q1, e1⟩ := q_takesOf (S := S) (v := nI 0) h (show 9 < 30 by decide) hk
  have b1 := Bs_m h k1
  have kk1 := k1
  obtain ⟨m2, k2, q2, e2⟩ := q_takesOf (S := S) (v := nI 1) b1 (show 9 < 30 by decide) hk
  have b2 := Bs_m b1 k2
  have kk2 := Km_t kk1 k2
  obtain ⟨m3, k3, q3, e3⟩ := q_takesOf (S := S) (v := nI 0) b2 (show 29 < 30 by decide) hk
  have b3 := Bs_m b2 k3
  have kk3 := Km_t kk2 k3
  obtain ⟨m4, k4, q4, e4⟩ := q_takesOf (S := S) (v := nI 1) b3 (show 29 < 30 by decide) hk
  have b4 := Bs_m b3 k4
  have kk4 := Km_t kk3 k4
  obtain ⟨m5, k5, q5, e5⟩ := q_priceOf (S := S) (v := nI 0) b4 hk
  have b5 := Bs_m b4 k5
  have kk5 := Km_t kk4 k5
  obtain ⟨m6, k6, q6, e6⟩ := q_priceOf (S := S) (v := nI 1) b5 hk
  have b6 := Bs_m b5 k6
  have kk6 := Km_t kk5 k6
  obtain ⟨m7, k7, q7, e7⟩ := q_portOf (S := S) (seed := nI 7) (x := nI k) b6 (Or.inr ⟨k, hk, rfl⟩)
  have b7 := Bs_m b6 k7
  have kk7 := Km_t kk6 k7
  simp only [if_pos (show nI 0 = nI 0 from rfl)] at e1 e3 e5
  simp only [if_neg (show ¬ nI 1 = nI 0 by decide)] at e2 e4 e6
  refine ⟨m7, kk7, q7, fun f Rt => ?_⟩
  simp only [u176_0, u176_3, u176_4, u176_5, u176_6, u176_9, u176_10, u176_11, u176_12, u176_13, u176_15, u176_18, u176_20, u176_21, u176_22, u176_25, u176_26, u176_27, u176_28, u176_29, u176_31, u176_34, u176_36, u176_37, u176_38, u176_40, u176_41, u176_42, u176_45, u176_46, u176_47, u176_49, u176_52, u176_54, u176_55, u176_56, u176_58, u176_59, u176_60, u176_63, u176_64, u176_65, u176_67, u176_70, u176_72, u176_73, u176_74, u176_76, u176_77, u176_78, u176_81, u176_82, u176_83, u176_85, u176_88, u176_90, u176_91, u176_92, u176_94, u176_95, u176_96, u176_99, u176_100, u176_101, u176_103, u176_106, u176_108, u176_109, u176_110, u176_111, u176_112, u176_115, u176_116, u176_117, u176_119, u176_122, u176_124, u176_125, u176_126, u176_127, u176_128, u176_131, u176_132, u176_133, u176_135, u176_138, u176_140, u176_141, u176_142, u176_144, u176_145, u176_148, u176_149, u176_150, hB9, hck, true_and, w5, w6, e1, e2, e3, e4, e5, e6, e7, pu_some, pu_none]
  rfl
set_option maxHeartbeats 1000000 in
theorem g_ship (h : Bs N B m) (hq : MQw N B m) {k : Nat} (hk : k < fN N B) {g : Int64} : ∃ m1, Km m m1 ∧ MQw N B m1 ∧ ∀ (f : Nat) (Rt : Option Value → AMem → Prop), T S (f + 9) 177 0 [some (.ref 73), some (.long g), none, some (.int (nI k)), none, none, none] [] m Rt = Rt (some (.long (fd1 N B g k))) m1 := by
  have h8 := (Bs_m8 h).2.2
  have e0 := fun (f : Nat) (Rt : Option Value → AMem → Prop) => it_run (fun i (s : Int64) => T S (f + 9) 177 6 [some (.ref 73), some (.long g), none, some (.int (nI k)), some (.long s), none, some (.int (nI i))] [] m Rt) (fun w g => mx g (w0 N B (7 + w) k).toInt64) (fun _ _ => True) 4 (fun _ _ _ _ => trivial) (fun i hi s _ => by
    have hle : ¬ 4 ≤ i := by omega
    have em := mho_v hq hk hi
    refine u177_6.trans ?_
    simp (disch := omega) only [u177_0, u177_1, u177_3, u177_4, u177_8, u177_9, u177_12, u177_15, u177_17, u177_18, u177_19, u177_20, u177_22, u177_25, u177_26, u177_27, u177_29, u177_32, u177_35, u177_36, u177_40, u177_41, u177_44, u177_47, u177_49, u177_50, u177_51, u177_52, u177_54, u177_57, u177_58, u177_59, u177_61, u177_64, u177_67, u177_70, u177_72, u177_73, u177_74, u177_75, u177_78, u177_79, u177_80, nI_le8, hle, if_false, s_mshipOf (show k < 7 by omega), em, pu_some, pu_none, nI_add]
    rfl) g trivial
  have hrow : it 4 (fun w g => mx g (w0 N B (7 + w) k).toInt64) g = rowD N B 7 4 k g := rfl
  rw [hrow] at e0
  obtain ⟨m2, ⟨k2, q2⟩, e2⟩ := it_runE (fun i (s : Int64) (x : AMem) (r : Nat × (Option Value → AMem → Prop)) => T S (r.1 + 9) 177 38 [some (.ref 73), some (.long g), none, some (.int (nI k)), some (.long s), none, some (.int (nI i))] [] x r.2) (fun w g => mx g (crP N B k (nI w)).toInt64) (fun _ _ x => Km m x ∧ MQw N B x) 5 (fun i hi s x ⟨hx1, hx2⟩ => by
    obtain ⟨m1, k1, q1, e1⟩ := q_crewOf (S := S) (v := nI i) (Bs_m h hx1) hk
    have hle : ¬ 5 ≤ i := by omega
    refine ⟨m1, ⟨Km_t hx1 k1, MQt_w q1⟩, fun r => u177_38.trans ?_⟩
    simp (disch := omega) only [u177_0, u177_1, u177_3, u177_4, u177_8, u177_9, u177_12, u177_15, u177_17, u177_18, u177_19, u177_20, u177_22, u177_25, u177_26, u177_27, u177_29, u177_32, u177_35, u177_36, u177_40, u177_41, u177_44, u177_47, u177_49, u177_50, u177_51, u177_52, u177_54, u177_57, u177_58, u177_59, u177_61, u177_64, u177_67, u177_70, u177_72, u177_73, u177_74, u177_75, u177_78, u177_79, u177_80, nI_le8, hle, if_false, e1, pu_some, pu_none, nI_add]
    rfl) (rowD N B 7 4 k g) m ⟨Km_r, hq⟩
  obtain ⟨m3, k3, q3, e3⟩ := q_lookOf (S := S) (Bs_m h k2) hk
  refine ⟨m3, Km_t k2 k3, MQt_w q3, fun f Rt => ?_⟩
  refine Eq.trans ?_ ((e0 f Rt).trans ?_)
  · simp only [u177_0, u177_1, u177_3, u177_4, u177_8, u177_9, u177_12, u177_15, u177_17, u177_18, u177_19, u177_20, u177_22, u177_25, u177_26, u177_27, u177_29, u177_32, u177_35, u177_36, u177_40, u177_41, u177_44, u177_47, u177_49, u177_50, u177_51, u177_52, u177_54, u177_57, u177_58, u177_59, u177_61, u177_64, u177_67, u177_70, u177_72, u177_73, u177_74, u177_75, u177_78, u177_79, u177_80]
  · refine u177_6.trans ?_
    simp (disch := omega) only [u177_8, u177_9, u177_35, u177_36, nI_le8, Nat.le_refl, if_true]
    refine (e2 (f, Rt)).trans (u177_38.trans ?_)
    simp (disch := omega) only [u177_0, u177_1, u177_3, u177_4, u177_8, u177_9, u177_12, u177_15, u177_17, u177_18, u177_19, u177_20, u177_22, u177_25, u177_26, u177_27, u177_29, u177_32, u177_35, u177_36, u177_40, u177_41, u177_44, u177_47, u177_49, u177_50, u177_51, u177_52, u177_54, u177_57, u177_58, u177_59, u177_61, u177_64, u177_67, u177_70, u177_72, u177_73, u177_74, u177_75, u177_78, u177_79, u177_80, nI_le8, Nat.le_refl, if_true, e3, pu_some, pu_none]
    rfl
theorem g_count (h : Bs N B m) {v : Nat} (hv : v < 8) : ∃ m1, Km m m1 ∧ ∀ (f : Nat) (Rt : Option Value → AMem → Prop), T S (f + 9) 172 0 [some (.ref 73), some (.int (nI v))] [] m Rt = Rt (some (.int (aCount N B 0 (nI v)))) m1 := by
  have u0 := (h.1 0 (by decide)).2.1
  have u1 := (h.1 1 (by decide)).2.1
  have u2 := (h.1 2 (by decide)).2.1
  have s7 := h.2.2.2.2.1.1
  have B0 : inB (nI 0) 3 = true := by decide
  have B1 : inB (nI 1) 3 = true := by decide
  have B2 : inB (nI 2) 3 = true := by decide
  have c0 : (nI 0).toNatClampNeg = 0 := nI_cl8 (by omega)
  have c1 : (nI 1).toNatClampNeg = 1 := nI_cl8 (by omega)
  have c2 : (nI 2).toNatClampNeg = 2 := nI_cl8 (by omega)
  have d3 : nI 3 - nI 3 = nI 0 := by decide
  have d4 : nI 4 - nI 3 = nI 1 := by decide
  have d5 : nI 5 - nI 3 = nI 2 := by decide
  unfold aCount
  rw [if_pos (nI_P (show v < 9 by omega) (by decide)), nI_cl8 (by omega)]
  rcases (show v = 0 ∨ v = 1 ∨ v = 2 ∨ v = 3 ∨ v = 4 ∨ v = 5 ∨ v = 6 ∨ v = 7 by omega) with rfl | rfl | rfl | rfl | rfl | rfl | rfl | rfl
  · obtain ⟨M2, k2, _, e⟩ := q_sumOf (S := S) h (v := 0) (by omega)
    exact ⟨M2, k2, fun f Rt => by simp only [u172_0, u172_1, u172_1v1, u172_1v2, u172_1v3, u172_1v4, u172_1v5, u172_1v6, u172_1v7, u172_1v8, u172_1v9, u172_52, u172_53, u172_54, u172_57, u172_58, u172_59, u172_62, u172_63, u172_64, u172_65, u172_66, u172_67, u172_68, u172_71, u172_72, u172_73, u172_76, u172_77, u172_79, e, pu_some, pu_none]; rfl⟩
  · obtain ⟨M2, k2, _, e⟩ := q_sumOf (S := S) h (v := 1) (by omega)
    exact ⟨M2, k2, fun f Rt => by simp only [u172_0, u172_1, u172_1v1, u172_1v2, u172_1v3, u172_1v4, u172_1v5, u172_1v6, u172_1v7, u172_1v8, u172_1v9, u172_52, u172_53, u172_54, u172_57, u172_58, u172_59, u172_62, u172_63, u172_64, u172_65, u172_66, u172_67, u172_68, u172_71, u172_72, u172_73, u172_76, u172_77, u172_79, e, pu_some, pu_none]; rfl⟩
  · obtain ⟨M2, k2, _, e⟩ := q_sumOf (S := S) h (v := 2) (by omega)
    exact ⟨M2, k2, fun f Rt => by simp only [u172_0, u172_1, u172_1v1, u172_1v2, u172_1v3, u172_1v4, u172_1v5, u172_1v6, u172_1v7, u172_1v8, u172_1v9, u172_52, u172_53, u172_54, u172_57, u172_58, u172_59, u172_62, u172_63, u172_64, u172_65, u172_66, u172_67, u172_68, u172_71, u172_72, u172_73, u172_76, u172_77, u172_79, e, pu_some, pu_none]; rfl⟩
  · exact ⟨m, Km_r, fun f Rt => by simp only [u172_0, u172_1, u172_1v1, u172_1v2, u172_1v3, u172_1v4, u172_1v5, u172_1v6, u172_1v7, u172_1v8, u172_1v9, u172_52, u172_53, u172_54, u172_57, u172_58, u172_59, u172_62, u172_63, u172_64, u172_65, u172_66, u172_67, u172_68, u172_71, u172_72, u172_73, u172_76, u172_77, u172_79, d3, B0, c0, true_and, u0]; rfl⟩
  · exact ⟨m, Km_r, fun f Rt => by simp only [u172_0, u172_1, u172_1v1, u172_1v2, u172_1v3, u172_1v4, u172_1v5, u172_1v6, u172_1v7, u172_1v8, u172_1v9, u172_52, u172_53, u172_54, u172_57, u172_58, u172_59, u172_62, u172_63, u172_64, u172_65, u172_66, u172_67, u172_68, u172_71, u172_72, u172_73, u172_76, u172_77, u172_79, d4, B1, c1, true_and, u1]; rfl⟩
  · exact ⟨m, Km_r, fun f Rt => by simp only [u172_0, u172_1, u172_1v1, u172_1v2, u172_1v3, u172_1v4, u172_1v5, u172_1v6, u172_1v7, u172_1v8, u172_1v9, u172_52, u172_53, u172_54, u172_57, u172_58, u172_59, u172_62, u172_63, u172_64, u172_65, u172_66, u172_67, u172_68, u172_71, u172_72, u172_73, u172_76, u172_77, u172_79, d5, B2, c2, true_and, u2]; rfl⟩
  · obtain ⟨M2, k2, _, e⟩ := q_sumOf (S := S) h (v := 6) (by omega)
    exact ⟨M2, k2, fun f Rt => by simp only [u172_0, u172_1, u172_1v1, u172_1v2, u172_1v3, u172_1v4, u172_1v5, u172_1v6, u172_1v7, u172_1v8, u172_1v9, u172_52, u172_53, u172_54, u172_57, u172_58, u172_59, u172_62, u172_63, u172_64, u172_65, u172_66, u172_67, u172_68, u172_71, u172_72, u172_73, u172_76, u172_77, u172_79, e, pu_some, pu_none]; rfl⟩
  · exact ⟨m, Km_r, fun f Rt => by simp only [u172_0, u172_1, u172_1v1, u172_1v2, u172_1v3, u172_1v4, u172_1v5, u172_1v6, u172_1v7, u172_1v8, u172_1v9, u172_52, u172_53, u172_54, u172_57, u172_58, u172_59, u172_62, u172_63, u172_64, u172_65, u172_66, u172_67, u172_68, u172_71, u172_72, u172_73, u172_76, u172_77, u172_79, s7]; rfl⟩
set_option maxHeartbeats 2000000 in
theorem g_digest (h : Bs N B m) : ∃ m1, Km m m1 ∧ ∀ (f : Nat) (Rt : Option Value → AMem → Prop), T S (f + 10) 174 0 [some (.ref 73), none, none, none] [] m Rt = Rt (some (.long (dg2 N B))) m1 := by
  obtain ⟨h8, h8i, h6⟩ := Bs_m8 h
  obtain ⟨n1, p1, e1⟩ := it_runE (fun i (s : Int64) (x : AMem) (r : Nat × (Option Value → AMem → Prop)) => T S (r.1 + 10) 174 6 [some (.ref 73), some (.long s), none, some (.int (nI i))] [] x r.2) (fun w h => mx h (aCount N B 0 (nI w)).toInt64) (fun _ _ x => Km m x) 8 (fun i hi s x hx1 => by
    obtain ⟨m1, k1, e1⟩ := g_count (S := S) (Bs_m h hx1) hi
    have hle : ¬ 8 ≤ i := by omega
    refine ⟨m1, Km_t hx1 k1, fun r => u174_6.trans ?_⟩
    simp (disch := omega) only [u174_0, u174_3, u174_4, u174_5, u174_7, u174_9, u174_12, u174_15, u174_16, u174_17, u174_18, u174_19, u174_22, u174_23, u174_24, u174_25, u174_28, u174_31, u174_32, u174_34, u174_35, u174_38, u174_41, u174_42, u174_43, u174_44, u174_45, u174_48, u174_49, u174_50, u174_51, u174_54, u174_57, u174_58, u174_60, u174_61, u174_64, u174_67, u174_68, u174_69, u174_70, u174_73, u174_74, u174_77, u174_80, u174_81, u174_83, u174_84, u174_87, u174_90, u174_91, u174_92, u174_93, u174_96, u174_97, u174_100, u174_103, u174_104, u174_106, u174_107, u174_110, u174_113, u174_114, u174_115, u174_116, u174_119, u174_120, u174_123, u174_126, u174_129, u174_130, u174_131, u174_132, u174_134, u174_137, u174_138, u174_139, u174_140, u174_143, u174_144, u174_145, u174_146, u174_148, u174_151, u174_152, u174_153, u174_154, u174_157, u174_158, u174_159, u174_160, u174_163, u174_164, u174_165, u174_166, u174_169, u174_170, u174_171, u174_172, u174_175, u174_176, u174_177, u174_178, u174_181, u174_182, u174_183, u174_184, u174_186, u174_189, u174_190, u174_191, u174_192, u174_195, u174_196, u174_197, u174_198, u174_200, u174_203, u174_204, u174_205, u174_206, u174_209, u174_210, u174_211, u174_212, u174_214, u174_215, u174_218, u174_219, u174_220, nI_le8, hle, if_false, e1, pu_some, pu_none, nI_add]
    rfl) 17 m Km_r
  obtain ⟨n2, ⟨p2, q2⟩, e2⟩ := it_runE (fun i (s : Int64) (x : AMem) (r : Nat × (Option Value → AMem → Prop)) => T S (r.1 + 10) 174 33 [some (.ref 73), some (.long s), none, some (.int (nI i))] [] x r.2) (fun t h => mx h (optI (ffN t (N t) (B t))).toInt64) (fun i _ x => Km m x ∧ (0 < i → MQt N B x)) 3 (fun i hi s x ⟨hx1, hx2⟩ => by
    obtain ⟨m1, x0, e1, k1, hM⟩ := rd_fault (S := S) (Bs_m h hx1) hi
    have hle : ¬ 3 ≤ i := by omega
    refine ⟨m1, ⟨Km_t hx1 k1, fun _ => ⟨x0, hM⟩⟩, fun r => u174_33.trans ?_⟩
    simp (disch := omega) only [u174_0, u174_3, u174_4, u174_5, u174_7, u174_9, u174_12, u174_15, u174_16, u174_17, u174_18, u174_19, u174_22, u174_23, u174_24, u174_25, u174_28, u174_31, u174_32, u174_34, u174_35, u174_38, u174_41, u174_42, u174_43, u174_44, u174_45, u174_48, u174_49, u174_50, u174_51, u174_54, u174_57, u174_58, u174_60, u174_61, u174_64, u174_67, u174_68, u174_69, u174_70, u174_73, u174_74, u174_77, u174_80, u174_81, u174_83, u174_84, u174_87, u174_90, u174_91, u174_92, u174_93, u174_96, u174_97, u174_100, u174_103, u174_104, u174_106, u174_107, u174_110, u174_113, u174_114, u174_115, u174_116, u174_119, u174_120, u174_123, u174_126, u174_129, u174_130, u174_131, u174_132, u174_134, u174_137, u174_138, u174_139, u174_140, u174_143, u174_144, u174_145, u174_146, u174_148, u174_151, u174_152, u174_153, u174_154, u174_157, u174_158, u174_159, u174_160, u174_163, u174_164, u174_165, u174_166, u174_169, u174_170, u174_171, u174_172, u174_175, u174_176, u174_177, u174_178, u174_181, u174_182, u174_183, u174_184, u174_186, u174_189, u174_190, u174_191, u174_192, u174_195, u174_196, u174_197, u174_198, u174_200, u174_203, u174_204, u174_205, u174_206, u174_209, u174_210, u174_211, u174_212, u174_214, u174_215, u174_218, u174_219, u174_220, nI_le8, hle, if_false, e1, pu_some, pu_none, nI_add]
    rfl) (it 8 (fun w h => mx h (aCount N B 0 (nI w)).toInt64) 17) n1 ⟨p1, fun z => by omega⟩
  obtain ⟨n3, ⟨p3, q3⟩, e3⟩ := it_runE (fun i (s : Int64) (x : AMem) (r : Nat × (Option Value → AMem → Prop)) => T S (r.1 + 10) 174 59 [some (.ref 73), some (.long s), none, some (.int (nI i))] [] x r.2) (fun k h => sd2 N B (sd1 N B h k) k) (fun _ _ x => Km m x ∧ MQt N B x) (mN N B) (fun i hi s x ⟨hx1, hx2⟩ => by
    obtain ⟨m1, k1, a1, e1⟩ := g_sailor (S := S) (g := s) (Bs_m h hx1) hx2 hi
    have hle : (nI (mN N B) ≤ nI i) = False := by rw [nI_le8 (by omega) (by omega)]; exact eq_false (by omega)
    refine ⟨m1, ⟨Km_t hx1 k1, a1⟩, fun r => u174_59.trans ?_⟩
    simp only [u174_0, u174_3, u174_4, u174_5, u174_7, u174_9, u174_12, u174_15, u174_16, u174_17, u174_18, u174_19, u174_22, u174_23, u174_24, u174_25, u174_28, u174_31, u174_32, u174_34, u174_35, u174_38, u174_41, u174_42, u174_43, u174_44, u174_45, u174_48, u174_49, u174_50, u174_51, u174_54, u174_57, u174_58, u174_60, u174_61, u174_64, u174_67, u174_68, u174_69, u174_70, u174_73, u174_74, u174_77, u174_80, u174_81, u174_83, u174_84, u174_87, u174_90, u174_91, u174_92, u174_93, u174_96, u174_97, u174_100, u174_103, u174_104, u174_106, u174_107, u174_110, u174_113, u174_114, u174_115, u174_116, u174_119, u174_120, u174_123, u174_126, u174_129, u174_130, u174_131, u174_132, u174_134, u174_137, u174_138, u174_139, u174_140, u174_143, u174_144, u174_145, u174_146, u174_148, u174_151, u174_152, u174_153, u174_154, u174_157, u174_158, u174_159, u174_160, u174_163, u174_164, u174_165, u174_166, u174_169, u174_170, u174_171, u174_172, u174_175, u174_176, u174_177, u174_178, u174_181, u174_182, u174_183, u174_184, u174_186, u174_189, u174_190, u174_191, u174_192, u174_195, u174_196, u174_197, u174_198, u174_200, u174_203, u174_204, u174_205, u174_206, u174_209, u174_210, u174_211, u174_212, u174_214, u174_215, u174_218, u174_219, u174_220, (w_cnt (MQt_w hx2)).1, hle, if_false, e1, pu_some, pu_none, nI_add]) (it 3 (fun t h => mx h (optI (ffN t (N t) (B t))).toInt64) (it 8 (fun w h => mx h (aCount N B 0 (nI w)).toInt64) 17)) n2 ⟨p2, q2 (by decide)⟩
  obtain ⟨n4, ⟨p4, q4⟩, e4⟩ := it_runE (fun i (s : Int64) (x : AMem) (r : Nat × (Option Value → AMem → Prop)) => T S (r.1 + 10) 174 82 [some (.ref 73), some (.long s), none, some (.int (nI i))] [] x r.2) (fun k h => hd1 N B h k) (fun _ _ x => Km m x ∧ MQw N B x) (iN N B) (fun i hi s x ⟨hx1, hx2⟩ => by
    obtain ⟨m1, k1, a1, e1⟩ := g_house (S := S) (g := s) (Bs_m h hx1) hx2 hi
    have hle : (nI (iN N B) ≤ nI i) = False := by rw [nI_le8 (by omega) (by omega)]; exact eq_false (by omega)
    refine ⟨m1, ⟨Km_t hx1 k1, a1⟩, fun r => u174_82.trans ?_⟩
    simp only [u174_0, u174_3, u174_4, u174_5, u174_7, u174_9, u174_12, u174_15, u174_16, u174_17, u174_18, u174_19, u174_22, u174_23, u174_24, u174_25, u174_28, u174_31, u174_32, u174_34, u174_35, u174_38, u174_41, u174_42, u174_43, u174_44, u174_45, u174_48, u174_49, u174_50, u174_51, u174_54, u174_57, u174_58, u174_60, u174_61, u174_64, u174_67, u174_68, u174_69, u174_70, u174_73, u174_74, u174_77, u174_80, u174_81, u174_83, u174_84, u174_87, u174_90, u174_91, u174_92, u174_93, u174_96, u174_97, u174_100, u174_103, u174_104, u174_106, u174_107, u174_110, u174_113, u174_114, u174_115, u174_116, u174_119, u174_120, u174_123, u174_126, u174_129, u174_130, u174_131, u174_132, u174_134, u174_137, u174_138, u174_139, u174_140, u174_143, u174_144, u174_145, u174_146, u174_148, u174_151, u174_152, u174_153, u174_154, u174_157, u174_158, u174_159, u174_160, u174_163, u174_164, u174_165, u174_166, u174_169, u174_170, u174_171, u174_172, u174_175, u174_176, u174_177, u174_178, u174_181, u174_182, u174_183, u174_184, u174_186, u174_189, u174_190, u174_191, u174_192, u174_195, u174_196, u174_197, u174_198, u174_200, u174_203, u174_204, u174_205, u174_206, u174_209, u174_210, u174_211, u174_212, u174_214, u174_215, u174_218, u174_219, u174_220, (w_cnt hx2).2.1, hle, if_false, e1, pu_some, pu_none, nI_add]) (it (mN N B) (fun k h => sd2 N B (sd1 N B h k) k) (it 3 (fun t h => mx h (optI (ffN t (N t) (B t))).toInt64) (it 8 (fun w h => mx h (aCount N B 0 (nI w)).toInt64) 17))) n3 ⟨p3, MQt_w q3⟩
  obtain ⟨n5, ⟨p5, q5⟩, e5⟩ := it_runE (fun i (s : Int64) (x : AMem) (r : Nat × (Option Value → AMem → Prop)) => T S (r.1 + 10) 174 105 [some (.ref 73), some (.long s), none, some (.int (nI i))] [] x r.2) (fun k h => fd1 N B h k) (fun _ _ x => Km m x ∧ MQw N B x) (fN N B) (fun i hi s x ⟨hx1, hx2⟩ => by
    obtain ⟨m1, k1, a1, e1⟩ := g_ship (S := S) (g := s) (Bs_m h hx1) hx2 hi
    have hle : (nI (fN N B) ≤ nI i) = False := by rw [nI_le8 (by omega) (by omega)]; exact eq_false (by omega)
    refine ⟨m1, ⟨Km_t hx1 k1, a1⟩, fun r => u174_105.trans ?_⟩
    simp only [u174_0, u174_3, u174_4, u174_5, u174_7, u174_9, u174_12, u174_15, u174_16, u174_17, u174_18, u174_19, u174_22, u174_23, u174_24, u174_25, u174_28, u174_31, u174_32, u174_34, u174_35, u174_38, u174_41, u174_42, u174_43, u174_44, u174_45, u174_48, u174_49, u174_50, u174_51, u174_54, u174_57, u174_58, u174_60, u174_61, u174_64, u174_67, u174_68, u174_69, u174_70, u174_73, u174_74, u174_77, u174_80, u174_81, u174_83, u174_84, u174_87, u174_90, u174_91, u174_92, u174_93, u174_96, u174_97, u174_100, u174_103, u174_104, u174_106, u174_107, u174_110, u174_113, u174_114, u174_115, u174_116, u174_119, u174_120, u174_123, u174_126, u174_129, u174_130, u174_131, u174_132, u174_134, u174_137, u174_138, u174_139, u174_140, u174_143, u174_144, u174_145, u174_146, u174_148, u174_151, u174_152, u174_153, u174_154, u174_157, u174_158, u174_159, u174_160, u174_163, u174_164, u174_165, u174_166, u174_169, u174_170, u174_171, u174_172, u174_175, u174_176, u174_177, u174_178, u174_181, u174_182, u174_183, u174_184, u174_186, u174_189, u174_190, u174_191, u174_192, u174_195, u174_196, u174_197, u174_198, u174_200, u174_203, u174_204, u174_205, u174_206, u174_209, u174_210, u174_211, u174_212, u174_214, u174_215, u174_218, u174_219, u174_220, (w_cnt hx2).2.2, hle, if_false, e1, pu_some, pu_none, nI_add]) (it (iN N B) (fun k h => hd1 N B h k) (it (mN N B) (fun k h => sd2 N B (sd1 N B h k) k) (it 3 (fun t h => mx h (optI (ffN t (N t) (B t))).toInt64) (it 8 (fun w h => mx h (aCount N B 0 (nI w)).toInt64) 17)))) n4 ⟨p4, q4⟩
  have hd1e : it (fN N B) (fun k h => fd1 N B h k) (it (iN N B) (fun k h => hd1 N B h k) (it (mN N B) (fun k h => sd2 N B (sd1 N B h k) k) (it 3 (fun t h => mx h (optI (ffN t (N t) (B t))).toInt64) (it 8 (fun w h => mx h (aCount N B 0 (nI w)).toInt64) 17)))) = dg1 N B := rfl
  rw [hd1e] at e5
  have t3 := (w_cnt (MQt_w q3)).1
  have t4 := (w_cnt q4).2.1
  have t5 := (w_cnt q5).2.2
  have hb5 := Bs_m h p5
  obtain ⟨r1, k1, y1, z1⟩ := q_richestOf (S := S) hb5 (show 9 < 30 by decide)
  have b1 := Bs_m hb5 k1
  have kk1 := Km_t p5 k1
  obtain ⟨r2, k2, y2, z2⟩ := q_richestOf (S := S) b1 (show 29 < 30 by decide)
  have b2 := Bs_m b1 k2
  have kk2 := Km_t kk1 k2
  obtain ⟨r3, k3, y3, z3⟩ := q_lastOf (S := S) b2
  have b3 := Bs_m b2 k3
  have kk3 := Km_t kk2 k3
  obtain ⟨r4, k4, y4, z4⟩ := q_neverNow (S := S) b3
  have b4 := Bs_m b3 k4
  have kk4 := Km_t kk3 k4
  obtain ⟨r5, k5, y5, z5⟩ := q_askOf (S := S) b4 (show 9 < 30 by decide)
  have b5 := Bs_m b4 k5
  have kk5 := Km_t kk4 k5
  obtain ⟨r6, k6, y6, z6⟩ := q_askOf (S := S) b5 (show 29 < 30 by decide)
  have b6 := Bs_m b5 k6
  have kk6 := Km_t kk5 k6
  obtain ⟨r7, k7, y7, z7⟩ := q_portOf (S := S) (seed := nI 7) (x := -1) b6 (Or.inl rfl)
  have b7 := Bs_m b6 k7
  have kk7 := Km_t kk6 k7
  refine ⟨r7, kk7, fun f Rt => ?_⟩
  refine Eq.trans ?_ ((e1 (f, Rt)).trans ?_)
  · simp only [u174_0, u174_3, u174_4, u174_5, u174_7, u174_9, u174_12, u174_15, u174_16, u174_17, u174_18, u174_19, u174_22, u174_23, u174_24, u174_25, u174_28, u174_31, u174_32, u174_34, u174_35, u174_38, u174_41, u174_42, u174_43, u174_44, u174_45, u174_48, u174_49, u174_50, u174_51, u174_54, u174_57, u174_58, u174_60, u174_61, u174_64, u174_67, u174_68, u174_69, u174_70, u174_73, u174_74, u174_77, u174_80, u174_81, u174_83, u174_84, u174_87, u174_90, u174_91, u174_92, u174_93, u174_96, u174_97, u174_100, u174_103, u174_104, u174_106, u174_107, u174_110, u174_113, u174_114, u174_115, u174_116, u174_119, u174_120, u174_123, u174_126, u174_129, u174_130, u174_131, u174_132, u174_134, u174_137, u174_138, u174_139, u174_140, u174_143, u174_144, u174_145, u174_146, u174_148, u174_151, u174_152, u174_153, u174_154, u174_157, u174_158, u174_159, u174_160, u174_163, u174_164, u174_165, u174_166, u174_169, u174_170, u174_171, u174_172, u174_175, u174_176, u174_177, u174_178, u174_181, u174_182, u174_183, u174_184, u174_186, u174_189, u174_190, u174_191, u174_192, u174_195, u174_196, u174_197, u174_198, u174_200, u174_203, u174_204, u174_205, u174_206, u174_209, u174_210, u174_211, u174_212, u174_214, u174_215, u174_218, u174_219, u174_220]
  · refine u174_6.trans ?_
    simp (disch := omega) only [u174_7, u174_9, u174_31, u174_32, nI_le8, Nat.le_refl, if_true]
    refine (e2 (f, Rt)).trans (u174_33.trans ?_)
    simp (disch := omega) only [u174_34, u174_35, u174_57, u174_58, nI_le8, Nat.le_refl, if_true]
    refine (e3 (f, Rt)).trans (u174_59.trans ?_)
    simp (disch := omega) only [u174_60, u174_61, u174_64, u174_80, u174_81, t3, nI_le8, Nat.le_refl, if_true]
    refine (e4 (f, Rt)).trans (u174_82.trans ?_)
    simp (disch := omega) only [u174_83, u174_84, u174_87, u174_103, u174_104, t4, nI_le8, Nat.le_refl, if_true]
    refine (e5 (f, Rt)).trans (u174_105.trans ?_)
    simp (disch := omega) only [u174_0, u174_3, u174_4, u174_5, u174_7, u174_9, u174_12, u174_15, u174_16, u174_17, u174_18, u174_19, u174_22, u174_23, u174_24, u174_25, u174_28, u174_31, u174_32, u174_34, u174_35, u174_38, u174_41, u174_42, u174_43, u174_44, u174_45, u174_48, u174_49, u174_50, u174_51, u174_54, u174_57, u174_58, u174_60, u174_61, u174_64, u174_67, u174_68, u174_69, u174_70, u174_73, u174_74, u174_77, u174_80, u174_81, u174_83, u174_84, u174_87, u174_90, u174_91, u174_92, u174_93, u174_96, u174_97, u174_100, u174_103, u174_104, u174_106, u174_107, u174_110, u174_113, u174_114, u174_115, u174_116, u174_119, u174_120, u174_123, u174_126, u174_129, u174_130, u174_131, u174_132, u174_134, u174_137, u174_138, u174_139, u174_140, u174_143, u174_144, u174_145, u174_146, u174_148, u174_151, u174_152, u174_153, u174_154, u174_157, u174_158, u174_159, u174_160, u174_163, u174_164, u174_165, u174_166, u174_169, u174_170, u174_171, u174_172, u174_175, u174_176, u174_177, u174_178, u174_181, u174_182, u174_183, u174_184, u174_186, u174_189, u174_190, u174_191, u174_192, u174_195, u174_196, u174_197, u174_198, u174_200, u174_203, u174_204, u174_205, u174_206, u174_209, u174_210, u174_211, u174_212, u174_214, u174_215, u174_218, u174_219, u174_220, t5, nI_le8, Nat.le_refl, if_true, z1, z2, z3, z4, z5, z6, z7, pu_some, pu_none]
    rfl
end DGM
