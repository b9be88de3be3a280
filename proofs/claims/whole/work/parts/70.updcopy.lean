section UPC
variable {S : AScr} {m m0 m1 m2 m3 M X : AMem} {N N' : Nat → Nat} {B B' : Nat → Nat → Nat}
theorem it_store {r q o p : Nat} (h : q ≠ r) : ∀ (n : Nat) (m : AMem), (∀ b, b ≠ r → it n (fun k X => up X r (o + k) (X q (p + k))) m b = m b) ∧ ∀ j, it n (fun k X => up X r (o + k) (X q (p + k))) m r j = if o ≤ j ∧ j < o + n then m q (p + (j - o)) else m r j := by
  intro n
  induction n with
  | zero => intro m; exact ⟨fun b _ => rfl, fun j => by rw [if_neg (by omega)]; rfl⟩
  | succ n ih =>
    intro m
    obtain ⟨i1, i2⟩ := ih m
    refine ⟨fun b hb => by rw [it_s, up_row hb, i1 b hb], fun j => ?_⟩
    rw [it_s]
    by_cases z : j = o + n
    · subst z
      rw [up_at, if_pos (by omega), i1 q h, show o + n - o = n by omega]
    · rw [up_off (Or.inr z), i2 j]
      by_cases y : o ≤ j ∧ j < o + n
      · rw [if_pos y, if_pos (by omega)]
      · rw [if_neg y, if_neg (by omega)]
theorem s_copyN {s t : Nat} (hs : s < 4) (ht : t < 4) {i j n : Int32} {z y : Nat} (h1 : Sh s z m) (h2 : Sh t y m) {f : Nat} {Rt : Option Value → AMem → Prop} : T S (f + 3) 78 0 [some (.ref 0), some (.int (nI s)), some (.int i), some (.int (nI t)), some (.int j), some (.int n), none, none] [] m Rt = Rt (some (.int (copyV s t i j n m))) (copyW s t i j n m) := by
  match s, hs, t, ht with
  | 0, _, 0, _ => exact s_copy00 h1 h2
  | 0, _, 1, _ => exact s_copy01 h1 h2
  | 0, _, 2, _ => exact s_copy02 h1 h2
  | 0, _, 3, _ => exact s_copy03 h1 h2
  | 1, _, 0, _ => exact s_copy10 h1 h2
  | 1, _, 1, _ => exact s_copy11 h1 h2
  | 1, _, 2, _ => exact s_copy12 h1 h2
  | 1, _, 3, _ => exact s_copy13 h1 h2
  | 2, _, 0, _ => exact s_copy20 h1 h2
  | 2, _, 1, _ => exact s_copy21 h1 h2
  | 2, _, 2, _ => exact s_copy22 h1 h2
  | 2, _, 3, _ => exact s_copy23 h1 h2
  | 3, _, 0, _ => exact s_copy30 h1 h2
  | 3, _, 1, _ => exact s_copy31 h1 h2
  | 3, _, 2, _ => exact s_copy32 h1 h2
  | 3, _, 3, _ => exact s_copy33 h1 h2
theorem hold_e {z a c : Nat} (hz : z ≤ 60) (ha : a < 2147483648) (hc : c < 2147483648) : (nI z - nI c < nI a) = (z < a + c) := by
  rw [fa2_lt, Int32.toInt_sub, nI_toI (by omega), nI_toI (by omega), nI_toI (by omega), Int.bmod_def]
  exact propext ⟨fun h => by omega, fun h => by omega⟩
theorem long_e {z a c : Nat} (hz : z ≤ 60) (ha : a < 2147483648) (hc : c < 2147483648) : (nI 0 < lg_cmp ((nI a).toInt64 + (nI c).toInt64) (nI z).toInt64) = (z < a + c) := by
  rw [nI_l (by omega), nI_l (by omega), nI_l (by omega), lN_add]
  have h := lg_cmp_gt (lN (a + c)) (lN z)
  rw [Int64.lt_iff_toInt_lt, lN_toInt (by omega), show (lN (a + c)).toInt = ((a + c : Nat) : Int) from lg_ofNat_toInt (by omega)] at h
  exact propext (h.trans ⟨fun h => by omega, fun h => by omega⟩)
theorem form_e {s : Nat} (h : ShL s m) (hn : ¬ m (65 + s) 1 = -1) : m 100 s = m (65 + s) 1 := by
  rcases h.2.1 with ⟨b1, b2⟩ | ⟨fk, hfk, b1, b2, b3⟩
  · exact absurd b1 hn
  · rw [b1, b3]
theorem nneg {x : Int32} (h : ¬ x < nI 0) : ∃ k, k < 2147483648 ∧ x = nI k := by
  obtain ⟨j, hj, e⟩ := nI_of (x := x) h
  exact ⟨j, hj, e⟩
set_option maxHeartbeats 2000000 in
theorem p_copy (h : Bs N B m) (hc : Ca N B m) {x i y j n : Int32} : PR S 78 170 [some (.ref 0), some (.int x), some (.int i), some (.int y), some (.int j), some (.int n), none, none] [some (.ref 73), some (.int x), some (.int i), some (.int y), some (.int j), some (.int n), none] m := by
  by_cases hx : nI 0 ≤ x ∧ x < nI 4
  · by_cases hy : nI 0 ≤ y ∧ y < nI 4
    · have hxt : (nI 0 ≤ x ∧ x < nI 4) = True := eq_true hx
      have hyt : (nI 0 ≤ y ∧ y < nI 4) = True := eq_true hy
      obtain ⟨s, hs, rfl⟩ := P_nI hx (by decide)
      obtain ⟨t, ht, rfl⟩ := P_nI hy (by decide)
      have hBs : inB (nI s) 4 = true := inB8 hs (by decide)
      have hcs : (nI s).toNatClampNeg = s := nI_cl8 (by omega)
      have hBt : inB (nI t) 4 = true := inB8 ht (by decide)
      have hct : (nI t).toNatClampNeg = t := nI_cl8 (by omega)
      have g1 := h.2.2.2.2.2.2 s hs
      have g2 := h.2.2.2.2.2.2 t ht
      obtain ⟨zs, hzs, as1, as2⟩ := g1.1
      obtain ⟨zt, hzt, at1, at2⟩ := g2.1
      have e1 := fun (f : Nat) (Rt : Option Value → AMem → Prop) => s_copyN (S := S) (f := f + 10) (m := m) (Rt := Rt) (i := i) (j := j) (n := n) hs ht ⟨as1, hzs⟩ ⟨at1, hzt⟩
      have ls := lost_e g1
      have lt := lost_e g2
      unfold copyV copyW at e1
      by_cases q0 : m (65 + s) 1 = -1 ∨ m (65 + t) 1 = -1
      · simp only [if_pos q0] at e1
        refine pr_find h hc e1 (fun f Rt => ?_)
        by_cases q1 : m (65 + s) 1 = -1
        · have l2 : (m 99 s = nI 0) = True := by rw [ls]; exact eq_true q1
          simp only [u170_0, u170_1, u170_4, u170_7, u170_8, u170_11, u170_14, u170_16, u170_17, u170_18, u170_21, u170_22, u170_23, u170_26, u170_27, u170_30, u170_31, u170_32, u170_35, u170_36, u170_37, u170_40, u170_41, u170_42, u170_45, u170_46, u170_47, u170_48, u170_51, u170_52, u170_53, u170_56, u170_57, u170_58, u170_61, u170_62, u170_63, u170_66, u170_68, u170_71, u170_73, u170_76, u170_77, u170_78, u170_80, u170_81, u170_82, u170_83, u170_86, u170_87, u170_88, u170_89, u170_90, u170_93, u170_95, u170_96, u170_98, u170_99, u170_100, u170_101, u170_104, u170_105, u170_106, u170_107, u170_108, u170_111, u170_112, u170_113, u170_116, u170_117, u170_118, u170_122, u170_124, u170_127, u170_128, u170_131, u170_133, u170_134, u170_137, u170_139, u170_140, u170_141, u170_142, u170_143, u170_145, u170_146, u170_147, u170_148, u170_151, u170_154, u170_155, u170_159, u170_161, u170_164, u170_165, u170_168, u170_170, u170_171, u170_172, u170_174, u170_175, u170_177, u170_178, u170_179, u170_182, u170_184, u170_185, u170_186, u170_189, u170_192, u170_193, s_mSheet, s_meets, pu_some, pu_none, b01_e0, hxt, hyt, not_true, if_false, hBs, hcs, true_and, up_row (show (99 : Nat) ≠ 0 by decide), l2, if_true]
        · have l2 : (m 99 s = nI 0) = False := by rw [ls]; exact eq_false q1
          have l3 : (m 99 t = nI 0) = True := by rw [lt]; exact eq_true (q0.resolve_left q1)
          simp only [u170_0, u170_1, u170_4, u170_7, u170_8, u170_11, u170_14, u170_16, u170_17, u170_18, u170_21, u170_22, u170_23, u170_26, u170_27, u170_30, u170_31, u170_32, u170_35, u170_36, u170_37, u170_40, u170_41, u170_42, u170_45, u170_46, u170_47, u170_48, u170_51, u170_52, u170_53, u170_56, u170_57, u170_58, u170_61, u170_62, u170_63, u170_66, u170_68, u170_71, u170_73, u170_76, u170_77, u170_78, u170_80, u170_81, u170_82, u170_83, u170_86, u170_87, u170_88, u170_89, u170_90, u170_93, u170_95, u170_96, u170_98, u170_99, u170_100, u170_101, u170_104, u170_105, u170_106, u170_107, u170_108, u170_111, u170_112, u170_113, u170_116, u170_117, u170_118, u170_122, u170_124, u170_127, u170_128, u170_131, u170_133, u170_134, u170_137, u170_139, u170_140, u170_141, u170_142, u170_143, u170_145, u170_146, u170_147, u170_148, u170_151, u170_154, u170_155, u170_159, u170_161, u170_164, u170_165, u170_168, u170_170, u170_171, u170_172, u170_174, u170_175, u170_177, u170_178, u170_179, u170_182, u170_184, u170_185, u170_186, u170_189, u170_192, u170_193, s_mSheet, s_meets, pu_some, pu_none, b01_e0, hxt, hyt, not_true, if_false, hBs, hcs, hBt, hct, true_and, up_row (show (99 : Nat) ≠ 0 by decide), l2, l3, if_true]
      · have q1 : ¬ m (65 + s) 1 = -1 := fun z => q0 (Or.inl z)
        have q2 : ¬ m (65 + t) 1 = -1 := fun z => q0 (Or.inr z)
        have l2 : (m 99 s = nI 0) = False := by rw [ls]; exact eq_false q1
        have l3 : (m 99 t = nI 0) = False := by rw [lt]; exact eq_false q2
        have f1 := form_e g1 q1
        have f2 := form_e g2 q2
        simp only [if_neg q0] at e1
        by_cases q3 : m (65 + s) 1 = m (65 + t) 1
        · have q3t : (m 100 s = m 100 t) = True := by rw [f1, f2]; exact eq_true q3
          simp only [if_pos q3] at e1
          by_cases c0 : i < nI 0
          · have hno : ¬ ((¬ i < nI 0 ∧ ¬ n < nI 0 ∧ ¬ m (65 + s) 2 - n < i) ∧ (¬ j < nI 0 ∧ ¬ n < nI 0 ∧ ¬ m (65 + t) 2 - n < j)) := fun z => z.1.1 c0
            simp only [if_neg hno] at e1
            refine pr_find h hc e1 (fun f Rt => ?_)
            simp only [u170_0, u170_1, u170_4, u170_7, u170_8, u170_11, u170_14, u170_16, u170_17, u170_18, u170_21, u170_22, u170_23, u170_26, u170_27, u170_30, u170_31, u170_32, u170_35, u170_36, u170_37, u170_40, u170_41, u170_42, u170_45, u170_46, u170_47, u170_48, u170_51, u170_52, u170_53, u170_56, u170_57, u170_58, u170_61, u170_62, u170_63, u170_66, u170_68, u170_71, u170_73, u170_76, u170_77, u170_78, u170_80, u170_81, u170_82, u170_83, u170_86, u170_87, u170_88, u170_89, u170_90, u170_93, u170_95, u170_96, u170_98, u170_99, u170_100, u170_101, u170_104, u170_105, u170_106, u170_107, u170_108, u170_111, u170_112, u170_113, u170_116, u170_117, u170_118, u170_122, u170_124, u170_127, u170_128, u170_131, u170_133, u170_134, u170_137, u170_139, u170_140, u170_141, u170_142, u170_143, u170_145, u170_146, u170_147, u170_148, u170_151, u170_154, u170_155, u170_159, u170_161, u170_164, u170_165, u170_168, u170_170, u170_171, u170_172, u170_174, u170_175, u170_177, u170_178, u170_179, u170_182, u170_184, u170_185, u170_186, u170_189, u170_192, u170_193, s_mSheet, s_meets, pu_some, pu_none, b01_e0, hxt, hyt, not_true, if_false, hBs, hcs, hBt, hct, true_and, up_row (show (99 : Nat) ≠ 0 by decide), up_row (show (100 : Nat) ≠ 0 by decide), l2, l3, if_true, q3t, c0]
          · by_cases c1 : j < nI 0
            · have hno : ¬ ((¬ i < nI 0 ∧ ¬ n < nI 0 ∧ ¬ m (65 + s) 2 - n < i) ∧ (¬ j < nI 0 ∧ ¬ n < nI 0 ∧ ¬ m (65 + t) 2 - n < j)) := fun z => z.2.1 c1
              simp only [if_neg hno] at e1
              refine pr_find h hc e1 (fun f Rt => ?_)
              simp only [u170_0, u170_1, u170_4, u170_7, u170_8, u170_11, u170_14, u170_16, u170_17, u170_18, u170_21, u170_22, u170_23, u170_26, u170_27, u170_30, u170_31, u170_32, u170_35, u170_36, u170_37, u170_40, u170_41, u170_42, u170_45, u170_46, u170_47, u170_48, u170_51, u170_52, u170_53, u170_56, u170_57, u170_58, u170_61, u170_62, u170_63, u170_66, u170_68, u170_71, u170_73, u170_76, u170_77, u170_78, u170_80, u170_81, u170_82, u170_83, u170_86, u170_87, u170_88, u170_89, u170_90, u170_93, u170_95, u170_96, u170_98, u170_99, u170_100, u170_101, u170_104, u170_105, u170_106, u170_107, u170_108, u170_111, u170_112, u170_113, u170_116, u170_117, u170_118, u170_122, u170_124, u170_127, u170_128, u170_131, u170_133, u170_134, u170_137, u170_139, u170_140, u170_141, u170_142, u170_143, u170_145, u170_146, u170_147, u170_148, u170_151, u170_154, u170_155, u170_159, u170_161, u170_164, u170_165, u170_168, u170_170, u170_171, u170_172, u170_174, u170_175, u170_177, u170_178, u170_179, u170_182, u170_184, u170_185, u170_186, u170_189, u170_192, u170_193, s_mSheet, s_meets, pu_some, pu_none, b01_e0, hxt, hyt, not_true, if_false, hBs, hcs, hBt, hct, true_and, up_row (show (99 : Nat) ≠ 0 by decide), up_row (show (100 : Nat) ≠ 0 by decide), l2, l3, if_true, q3t, c0, c1]
            · by_cases c2 : n < nI 0
              · have hno : ¬ ((¬ i < nI 0 ∧ ¬ n < nI 0 ∧ ¬ m (65 + s) 2 - n < i) ∧ (¬ j < nI 0 ∧ ¬ n < nI 0 ∧ ¬ m (65 + t) 2 - n < j)) := fun z => z.1.2.1 c2
                simp only [if_neg hno] at e1
                refine pr_find h hc e1 (fun f Rt => ?_)
                simp only [u170_0, u170_1, u170_4, u170_7, u170_8, u170_11, u170_14, u170_16, u170_17, u170_18, u170_21, u170_22, u170_23, u170_26, u170_27, u170_30, u170_31, u170_32, u170_35, u170_36, u170_37, u170_40, u170_41, u170_42, u170_45, u170_46, u170_47, u170_48, u170_51, u170_52, u170_53, u170_56, u170_57, u170_58, u170_61, u170_62, u170_63, u170_66, u170_68, u170_71, u170_73, u170_76, u170_77, u170_78, u170_80, u170_81, u170_82, u170_83, u170_86, u170_87, u170_88, u170_89, u170_90, u170_93, u170_95, u170_96, u170_98, u170_99, u170_100, u170_101, u170_104, u170_105, u170_106, u170_107, u170_108, u170_111, u170_112, u170_113, u170_116, u170_117, u170_118, u170_122, u170_124, u170_127, u170_128, u170_131, u170_133, u170_134, u170_137, u170_139, u170_140, u170_141, u170_142, u170_143, u170_145, u170_146, u170_147, u170_148, u170_151, u170_154, u170_155, u170_159, u170_161, u170_164, u170_165, u170_168, u170_170, u170_171, u170_172, u170_174, u170_175, u170_177, u170_178, u170_179, u170_182, u170_184, u170_185, u170_186, u170_189, u170_192, u170_193, s_mSheet, s_meets, pu_some, pu_none, b01_e0, hxt, hyt, not_true, if_false, hBs, hcs, hBt, hct, true_and, up_row (show (99 : Nat) ≠ 0 by decide), up_row (show (100 : Nat) ≠ 0 by decide), l2, l3, if_true, q3t, c0, c1, c2]
              · obtain ⟨a, ha, rfl⟩ := nneg c0
                obtain ⟨b, hb, rfl⟩ := nneg c1
                obtain ⟨c, hcc, rfl⟩ := nneg c2
                rw [as1, at1] at e1
                have he1 := hold_e hzs ha hcc
                have he2 := hold_e hzt hb hcc
                have le1 := long_e hzs ha hcc
                have le2 := long_e hzt hb hcc
                by_cases d1 : zs < a + c
                · have hno : ¬ ((¬ nI a < nI 0 ∧ ¬ nI c < nI 0 ∧ ¬ nI zs - nI c < nI a) ∧ (¬ nI b < nI 0 ∧ ¬ nI c < nI 0 ∧ ¬ nI zt - nI c < nI b)) := fun z => z.1.2.2 (he1.mpr d1)
                  simp only [if_neg hno] at e1
                  refine pr_find h hc e1 (fun f Rt => ?_)
                  simp only [u170_0, u170_1, u170_4, u170_7, u170_8, u170_11, u170_14, u170_16, u170_17, u170_18, u170_21, u170_22, u170_23, u170_26, u170_27, u170_30, u170_31, u170_32, u170_35, u170_36, u170_37, u170_40, u170_41, u170_42, u170_45, u170_46, u170_47, u170_48, u170_51, u170_52, u170_53, u170_56, u170_57, u170_58, u170_61, u170_62, u170_63, u170_66, u170_68, u170_71, u170_73, u170_76, u170_77, u170_78, u170_80, u170_81, u170_82, u170_83, u170_86, u170_87, u170_88, u170_89, u170_90, u170_93, u170_95, u170_96, u170_98, u170_99, u170_100, u170_101, u170_104, u170_105, u170_106, u170_107, u170_108, u170_111, u170_112, u170_113, u170_116, u170_117, u170_118, u170_122, u170_124, u170_127, u170_128, u170_131, u170_133, u170_134, u170_137, u170_139, u170_140, u170_141, u170_142, u170_143, u170_145, u170_146, u170_147, u170_148, u170_151, u170_154, u170_155, u170_159, u170_161, u170_164, u170_165, u170_168, u170_170, u170_171, u170_172, u170_174, u170_175, u170_177, u170_178, u170_179, u170_182, u170_184, u170_185, u170_186, u170_189, u170_192, u170_193, s_mSheet, s_meets, pu_some, pu_none, b01_e0, hxt, hyt, not_true, if_false, hBs, hcs, hBt, hct, true_and, up_row (show (99 : Nat) ≠ 0 by decide), up_row (show (100 : Nat) ≠ 0 by decide), up_row (show (101 : Nat) ≠ 0 by decide), l2, l3, if_true, q3t, c0, c1, c2, as2, le1, d1]
                · by_cases d2 : zt < b + c
                  · have hno : ¬ ((¬ nI a < nI 0 ∧ ¬ nI c < nI 0 ∧ ¬ nI zs - nI c < nI a) ∧ (¬ nI b < nI 0 ∧ ¬ nI c < nI 0 ∧ ¬ nI zt - nI c < nI b)) := fun z => z.2.2.2 (he2.mpr d2)
                    simp only [if_neg hno] at e1
                    refine pr_find h hc e1 (fun f Rt => ?_)
                    have le2n : (lg_cmp ((nI b).toInt64 + (nI c).toInt64) (nI zt).toInt64 ≤ nI 0) = False := by rw [le_n, le2]; exact eq_false (fun z => z d2)
                    simp only [u170_0, u170_1, u170_4, u170_7, u170_8, u170_11, u170_14, u170_16, u170_17, u170_18, u170_21, u170_22, u170_23, u170_26, u170_27, u170_30, u170_31, u170_32, u170_35, u170_36, u170_37, u170_40, u170_41, u170_42, u170_45, u170_46, u170_47, u170_48, u170_51, u170_52, u170_53, u170_56, u170_57, u170_58, u170_61, u170_62, u170_63, u170_66, u170_68, u170_71, u170_73, u170_76, u170_77, u170_78, u170_80, u170_81, u170_82, u170_83, u170_86, u170_87, u170_88, u170_89, u170_90, u170_93, u170_95, u170_96, u170_98, u170_99, u170_100, u170_101, u170_104, u170_105, u170_106, u170_107, u170_108, u170_111, u170_112, u170_113, u170_116, u170_117, u170_118, u170_122, u170_124, u170_127, u170_128, u170_131, u170_133, u170_134, u170_137, u170_139, u170_140, u170_141, u170_142, u170_143, u170_145, u170_146, u170_147, u170_148, u170_151, u170_154, u170_155, u170_159, u170_161, u170_164, u170_165, u170_168, u170_170, u170_171, u170_172, u170_174, u170_175, u170_177, u170_178, u170_179, u170_182, u170_184, u170_185, u170_186, u170_189, u170_192, u170_193, s_mSheet, s_meets, pu_some, pu_none, b01_e0, hxt, hyt, not_true, if_false, hBs, hcs, hBt, hct, true_and, up_row (show (99 : Nat) ≠ 0 by decide), up_row (show (100 : Nat) ≠ 0 by decide), up_row (show (101 : Nat) ≠ 0 by decide), l2, l3, if_true, q3t, c0, c1, c2, as2, at2, le1, d1, le2n]
                  · have hyes : (¬ nI a < nI 0 ∧ ¬ nI c < nI 0 ∧ ¬ nI zs - nI c < nI a) ∧ (¬ nI b < nI 0 ∧ ¬ nI c < nI 0 ∧ ¬ nI zt - nI c < nI b) := ⟨⟨c0, c2, fun z => d1 (he1.mp z)⟩, c1, c2, fun z => d2 (he2.mp z)⟩
                    simp only [if_pos hyes] at e1
                    rw [nI_cl8 ha, nI_cl8 hb, nI_cl8 hcc] at e1
                    have le2n : (lg_cmp ((nI b).toInt64 + (nI c).toInt64) (nI zt).toInt64 ≤ nI 0) = True := by rw [le_n, le2]; exact eq_true d2
                    have hr1 : ∀ r, r ≠ 69 + t → upA m (69 + t) (va_cpy (m (69 + s)) (m (69 + t)) a b c) r = m r := fun r hr => upA_ne hr
                    have hr2 : upA m (69 + t) (va_cpy (m (69 + s)) (m (69 + t)) a b c) (69 + t) = va_cpy (m (69 + s)) (m (69 + t)) a b c := upA_at
                    generalize upA m (69 + t) (va_cpy (m (69 + s)) (m (69 + t)) a b c) = m1 at *
                    have ex := fun (f : Nat) (Rt : Option Value → AMem → Prop) => it_run (fun k (X : AMem) => T S (f + 13) 170 120 [some (.ref 73), some (.int (nI s)), some (.int (nI a)), some (.int (nI t)), some (.int (nI b)), some (.int (nI c)), some (.int (nI k))] [] X Rt) (fun k X => up X 103 (0 + k) (X 102 (60 * s + a + k))) (fun _ _ => True) c (fun _ _ _ _ => trivial) (fun k hk X _ => by
                      have hle : ¬ c ≤ k := by omega
                      have hB1 : inB (nI k) 60 = true := inB8 (by omega) (by decide)
                      have hc1 : (nI k).toNatClampNeg = k := nI_cl8 (by omega)
                      have hB2 : inB (nI (60 * s + a + k)) 240 = true := inB8 (by omega) (by decide)
                      have hc2 : (nI (60 * s + a + k)).toNatClampNeg = 60 * s + a + k := nI_cl8 (by omega)
                      refine u170_120.trans ?_
                      simp (disch := omega) only [u170_0, u170_1, u170_4, u170_7, u170_8, u170_11, u170_14, u170_16, u170_17, u170_18, u170_21, u170_22, u170_23, u170_26, u170_27, u170_30, u170_31, u170_32, u170_35, u170_36, u170_37, u170_40, u170_41, u170_42, u170_45, u170_46, u170_47, u170_48, u170_51, u170_52, u170_53, u170_56, u170_57, u170_58, u170_61, u170_62, u170_63, u170_66, u170_68, u170_71, u170_73, u170_76, u170_77, u170_78, u170_80, u170_81, u170_82, u170_83, u170_86, u170_87, u170_88, u170_89, u170_90, u170_93, u170_95, u170_96, u170_98, u170_99, u170_100, u170_101, u170_104, u170_105, u170_106, u170_107, u170_108, u170_111, u170_112, u170_113, u170_116, u170_117, u170_118, u170_122, u170_124, u170_127, u170_128, u170_131, u170_133, u170_134, u170_137, u170_139, u170_140, u170_141, u170_142, u170_143, u170_145, u170_146, u170_147, u170_148, u170_151, u170_154, u170_155, u170_159, u170_161, u170_164, u170_165, u170_168, u170_170, u170_171, u170_172, u170_174, u170_175, u170_177, u170_178, u170_179, u170_182, u170_184, u170_185, u170_186, u170_189, u170_192, u170_193, nI_le8, hle, if_false, nI_mul8, nI_add, hB1, hc1, hB2, hc2, true_and, Nat.zero_add]) m1 trivial
                    obtain ⟨y1, y2⟩ := it_store (r := 103) (q := 102) (o := 0) (p := 60 * s + a) (by decide) c m1
                    generalize it c (fun k X => up X 103 (0 + k) (X 102 (60 * s + a + k))) m1 = Y at *
                    have ez := fun (f : Nat) (Rt : Option Value → AMem → Prop) => it_run (fun k (X : AMem) => T S (f + 13) 170 157 [some (.ref 73), some (.int (nI s)), some (.int (nI a)), some (.int (nI t)), some (.int (nI b)), some (.int (nI c)), some (.int (nI k))] [] X Rt) (fun k X => up X 102 (60 * t + b + k) (X 103 (0 + k))) (fun _ _ => True) c (fun _ _ _ _ => trivial) (fun k hk X _ => by
                      have hle : ¬ c ≤ k := by omega
                      have hB1 : inB (nI k) 60 = true := inB8 (by omega) (by decide)
                      have hc1 : (nI k).toNatClampNeg = k := nI_cl8 (by omega)
                      have hB2 : inB (nI (60 * t + b + k)) 240 = true := inB8 (by omega) (by decide)
                      have hc2 : (nI (60 * t + b + k)).toNatClampNeg = 60 * t + b + k := nI_cl8 (by omega)
                      refine u170_157.trans ?_
                      simp (disch := omega) only [u170_0, u170_1, u170_4, u170_7, u170_8, u170_11, u170_14, u170_16, u170_17, u170_18, u170_21, u170_22, u170_23, u170_26, u170_27, u170_30, u170_31, u170_32, u170_35, u170_36, u170_37, u170_40, u170_41, u170_42, u170_45, u170_46, u170_47, u170_48, u170_51, u170_52, u170_53, u170_56, u170_57, u170_58, u170_61, u170_62, u170_63, u170_66, u170_68, u170_71, u170_73, u170_76, u170_77, u170_78, u170_80, u170_81, u170_82, u170_83, u170_86, u170_87, u170_88, u170_89, u170_90, u170_93, u170_95, u170_96, u170_98, u170_99, u170_100, u170_101, u170_104, u170_105, u170_106, u170_107, u170_108, u170_111, u170_112, u170_113, u170_116, u170_117, u170_118, u170_122, u170_124, u170_127, u170_128, u170_131, u170_133, u170_134, u170_137, u170_139, u170_140, u170_141, u170_142, u170_143, u170_145, u170_146, u170_147, u170_148, u170_151, u170_154, u170_155, u170_159, u170_161, u170_164, u170_165, u170_168, u170_170, u170_171, u170_172, u170_174, u170_175, u170_177, u170_178, u170_179, u170_182, u170_184, u170_185, u170_186, u170_189, u170_192, u170_193, nI_le8, hle, if_false, nI_mul8, nI_add, hB1, hc1, hB2, hc2, true_and, Nat.zero_add]) Y trivial
                    obtain ⟨z1, z2⟩ := it_store (r := 102) (q := 103) (o := 60 * t + b) (p := 0) (by decide) c Y
                    generalize it c (fun k X => up X 102 (60 * t + b + k) (X 103 (0 + k))) Y = Z at *
                    have hrow : ∀ r, ¬ (65 ≤ r ∧ r ≤ 72) → ¬ (99 ≤ r ∧ r ≤ 103) → Z r = m r := fun r r1 r2 => by rw [z1 r (by omega), y1 r (by omega), hr1 r (by omega)]
                    have hrow2 : ∀ r, r ≠ 102 → r ≠ 103 → r ≠ 69 + t → Z r = m r := fun r r1 r2 r3 => by rw [z1 r r1, y1 r r2, hr1 r r3]
                    obtain ⟨k1, k2⟩ := sheet_Bs (m2 := Z) h hc (fun r jj _ _ r3 r4 => by rw [hrow r r3 r4]) (by rw [hrow 0 (by omega) (by omega), hrow 73 (by omega) (by omega)]; exact h.2.2.2.2.2.1) (fun s2 hs2 => by
                      by_cases zz : s2 = t
                      · subst zz
                        refine ⟨⟨zt, hzt, ?_, ?_⟩, ?_, fun ii hi => ?_⟩
                        · rw [hrow2 _ (by omega) (by omega) (by omega)]; exact at1
                        · rw [hrow2 _ (by omega) (by omega) (by omega)]; exact at2
                        · rw [hrow2 _ (by omega) (by omega) (by omega), hrow2 99 (by omega) (by omega) (by omega), hrow2 100 (by omega) (by omega) (by omega)]
                          exact g2.2.1
                        · rw [z1 _ (by omega), y1 _ (by omega), hr2, z2]
                          unfold va_cpy
                          by_cases w : b ≤ ii ∧ ii < b + c
                          · rw [if_pos w, if_pos (by omega), y2, if_pos (by omega), hr1 102 (by omega), g1.2.2 _ (by omega)]
                            congr 1
                            omega
                          · rw [if_neg w, if_neg (by omega), y1 102 (by decide), hr1 102 (by omega)]
                            exact g2.2.2 ii hi
                      · refine ShL_keep (h.2.2.2.2.2.2 s2 hs2) ?_ ?_ ?_ ?_ ?_ (fun ii hi => ?_)
                        · rw [hrow2 _ (by omega) (by omega) (by omega)]
                        · rw [hrow2 _ (by omega) (by omega) (by omega)]
                        · rw [hrow2 _ (by omega) (by omega) (by omega)]
                        · rw [hrow2 _ (by omega) (by omega) (by omega)]
                        · rw [hrow2 _ (by omega) (by omega) (by omega)]
                        · rw [z2, if_neg (by omega), y1 102 (by decide), hr1 102 (by omega)])
                    refine ⟨(nI 1), m1, Z, N, B, k1, k2, e1, fun f Rt => ?_⟩
                    have r99 := hr1 99 (by omega)
                    have r100 := hr1 100 (by omega)
                    have r101 := hr1 101 (by omega)
                    refine Eq.trans ?_ ((ex f Rt).trans ?_)
                    · simp only [u170_0, u170_1, u170_4, u170_7, u170_8, u170_11, u170_14, u170_16, u170_17, u170_18, u170_21, u170_22, u170_23, u170_26, u170_27, u170_30, u170_31, u170_32, u170_35, u170_36, u170_37, u170_40, u170_41, u170_42, u170_45, u170_46, u170_47, u170_48, u170_51, u170_52, u170_53, u170_56, u170_57, u170_58, u170_61, u170_62, u170_63, u170_66, u170_68, u170_71, u170_73, u170_76, u170_77, u170_78, u170_80, u170_81, u170_82, u170_83, u170_86, u170_87, u170_88, u170_89, u170_90, u170_93, u170_95, u170_96, u170_98, u170_99, u170_100, u170_101, u170_104, u170_105, u170_106, u170_107, u170_108, u170_111, u170_112, u170_113, u170_116, u170_117, u170_118, u170_122, u170_124, u170_127, u170_128, u170_131, u170_133, u170_134, u170_137, u170_139, u170_140, u170_141, u170_142, u170_143, u170_145, u170_146, u170_147, u170_148, u170_151, u170_154, u170_155, u170_159, u170_161, u170_164, u170_165, u170_168, u170_170, u170_171, u170_172, u170_174, u170_175, u170_177, u170_178, u170_179, u170_182, u170_184, u170_185, u170_186, u170_189, u170_192, u170_193, s_mSheet, pu_some, pu_none, b01_e0, hxt, hyt, not_true, if_false, hBs, hcs, hBt, hct, true_and, r99, r100, r101, l2, l3, if_true, q3t, c0, c1, c2, as2, at2, le1, d1, le2n]
                    · refine u170_120.trans ?_
                      simp (disch := omega) only [u170_122, u170_124, u170_154, u170_155, nI_le8, Nat.le_refl, if_true]
                      refine (ez f Rt).trans (u170_157.trans ?_)
                      simp (disch := omega) only [u170_159, u170_161, u170_192, u170_193, nI_le8, Nat.le_refl, if_true]
        · have q3t : (m 100 s = m 100 t) = False := by rw [f1, f2]; exact eq_false q3
          simp only [if_neg q3] at e1
          refine pr_find h hc e1 (fun f Rt => ?_)
          simp only [u170_0, u170_1, u170_4, u170_7, u170_8, u170_11, u170_14, u170_16, u170_17, u170_18, u170_21, u170_22, u170_23, u170_26, u170_27, u170_30, u170_31, u170_32, u170_35, u170_36, u170_37, u170_40, u170_41, u170_42, u170_45, u170_46, u170_47, u170_48, u170_51, u170_52, u170_53, u170_56, u170_57, u170_58, u170_61, u170_62, u170_63, u170_66, u170_68, u170_71, u170_73, u170_76, u170_77, u170_78, u170_80, u170_81, u170_82, u170_83, u170_86, u170_87, u170_88, u170_89, u170_90, u170_93, u170_95, u170_96, u170_98, u170_99, u170_100, u170_101, u170_104, u170_105, u170_106, u170_107, u170_108, u170_111, u170_112, u170_113, u170_116, u170_117, u170_118, u170_122, u170_124, u170_127, u170_128, u170_131, u170_133, u170_134, u170_137, u170_139, u170_140, u170_141, u170_142, u170_143, u170_145, u170_146, u170_147, u170_148, u170_151, u170_154, u170_155, u170_159, u170_161, u170_164, u170_165, u170_168, u170_170, u170_171, u170_172, u170_174, u170_175, u170_177, u170_178, u170_179, u170_182, u170_184, u170_185, u170_186, u170_189, u170_192, u170_193, s_mSheet, s_meets, pu_some, pu_none, b01_e0, hxt, hyt, not_true, if_false, hBs, hcs, hBt, hct, true_and, up_row (show (99 : Nat) ≠ 0 by decide), up_row (show (100 : Nat) ≠ 0 by decide), l2, l3, q3t]
    · have hxt : (nI 0 ≤ x ∧ x < nI 4) = True := eq_true hx
      have hyt : (nI 0 ≤ y ∧ y < nI 4) = False := eq_false hy
      refine pr_same h hc (fun f Rt => s_copyB (f := f + 10) (fun z => hy z.2)) (fun f Rt => ?_)
      simp only [u170_0, u170_1, u170_4, u170_7, u170_8, u170_11, u170_14, u170_16, u170_17, u170_18, u170_21, u170_22, u170_23, u170_26, u170_27, u170_30, u170_31, u170_32, u170_35, u170_36, u170_37, u170_40, u170_41, u170_42, u170_45, u170_46, u170_47, u170_48, u170_51, u170_52, u170_53, u170_56, u170_57, u170_58, u170_61, u170_62, u170_63, u170_66, u170_68, u170_71, u170_73, u170_76, u170_77, u170_78, u170_80, u170_81, u170_82, u170_83, u170_86, u170_87, u170_88, u170_89, u170_90, u170_93, u170_95, u170_96, u170_98, u170_99, u170_100, u170_101, u170_104, u170_105, u170_106, u170_107, u170_108, u170_111, u170_112, u170_113, u170_116, u170_117, u170_118, u170_122, u170_124, u170_127, u170_128, u170_131, u170_133, u170_134, u170_137, u170_139, u170_140, u170_141, u170_142, u170_143, u170_145, u170_146, u170_147, u170_148, u170_151, u170_154, u170_155, u170_159, u170_161, u170_164, u170_165, u170_168, u170_170, u170_171, u170_172, u170_174, u170_175, u170_177, u170_178, u170_179, u170_182, u170_184, u170_185, u170_186, u170_189, u170_192, u170_193, s_mSheet, pu_some, pu_none, b01_e0, hxt, hyt, not_true, not_false_iff, if_false, if_true]
  · have hxt : (nI 0 ≤ x ∧ x < nI 4) = False := eq_false hx
    refine pr_same h hc (fun f Rt => s_copyB (f := f + 10) (fun z => hx z.1)) (fun f Rt => ?_)
    simp only [u170_0, u170_1, u170_4, u170_7, u170_8, u170_11, u170_14, u170_16, u170_17, u170_18, u170_21, u170_22, u170_23, u170_26, u170_27, u170_30, u170_31, u170_32, u170_35, u170_36, u170_37, u170_40, u170_41, u170_42, u170_45, u170_46, u170_47, u170_48, u170_51, u170_52, u170_53, u170_56, u170_57, u170_58, u170_61, u170_62, u170_63, u170_66, u170_68, u170_71, u170_73, u170_76, u170_77, u170_78, u170_80, u170_81, u170_82, u170_83, u170_86, u170_87, u170_88, u170_89, u170_90, u170_93, u170_95, u170_96, u170_98, u170_99, u170_100, u170_101, u170_104, u170_105, u170_106, u170_107, u170_108, u170_111, u170_112, u170_113, u170_116, u170_117, u170_118, u170_122, u170_124, u170_127, u170_128, u170_131, u170_133, u170_134, u170_137, u170_139, u170_140, u170_141, u170_142, u170_143, u170_145, u170_146, u170_147, u170_148, u170_151, u170_154, u170_155, u170_159, u170_161, u170_164, u170_165, u170_168, u170_170, u170_171, u170_172, u170_174, u170_175, u170_177, u170_178, u170_179, u170_182, u170_184, u170_185, u170_186, u170_189, u170_192, u170_193, s_mSheet, pu_some, pu_none, b01_e0, hxt, not_false_iff, if_true]
end UPC
