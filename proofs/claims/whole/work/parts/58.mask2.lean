section MAK
variable {S : AScr} {m M X : AMem} {w : AMem} {N : Nat → Nat} {B : Nat → Nat → Nat}
/-- what house h takes behind the day without ship s -/
def tkV (N : Nat → Nat) (B : Nat → Nat → Nat) (day s h : Nat) : Int32 := RR N B (wA N B (nI (2 ^ s))) day 89 h
def alP (bits : Int32) (fleet : Nat) (V : Nat → Nat → Int32) (h a : Nat) : Nat := it fleet (fun b n => if ((bits >>> (nI a &&& 31)) &&& nI 1 = nI 1 ∧ (bits >>> (nI b &&& 31)) &&& nI 1 = nI 1) ∧ V a h = V b h then n + 1 else n) 0
def grP (bits : Int32) (fleet : Nat) (V : Nat → Nat → Int32) (h : Nat) : Nat := it fleet (fun a g => if g < alP bits fleet V h a then alP bits fleet V h a else g) 0
def akF (bits : Int32) (fleet : Nat) (V : Nat → Nat → Int32) (h : Nat) (s : Option Nat × Nat) : Option Nat × Nat := match s.1 with
  | none => (some h, grP bits fleet V h)
  | some j => if grP bits fleet V h < s.2 then (some h, grP bits fleet V h) else (some j, s.2)
def akP (bits : Int32) (inns fleet : Nat) (V : Nat → Nat → Int32) : Option Nat × Nat := it inns (akF bits fleet V) (none, 0)
theorem al_le {bits : Int32} {fleet h a : Nat} {V : Nat → Nat → Int32} : alP bits fleet V h a ≤ fleet := by
  have key : ∀ n, it n (fun b n => if ((bits >>> (nI a &&& 31)) &&& nI 1 = nI 1 ∧ (bits >>> (nI b &&& 31)) &&& nI 1 = nI 1) ∧ V a h = V b h then n + 1 else n) 0 ≤ n := by
    intro n
    induction n with
    | zero => exact Nat.le_refl _
    | succ n ih =>
      rw [it_s]
      split <;> omega
  exact key fleet
theorem gr_le {bits : Int32} {fleet h : Nat} {V : Nat → Nat → Int32} : grP bits fleet V h ≤ fleet := by
  have key : ∀ n, it n (fun a g => if g < alP bits fleet V h a then alP bits fleet V h a else g) 0 ≤ fleet := by
    intro n
    induction n with
    | zero => exact Nat.zero_le _
    | succ n ih =>
      rw [it_s]
      split
      · exact al_le
      · exact ih
  exact key fleet
set_option maxHeartbeats 2000000 in
theorem q_askOf (h : Bs N B m) {day : Nat} (hd : day < 30) : ∃ M, Km m M ∧ MQt N B M ∧ ∀ (f : Nat) (Rt : Option Value → AMem → Prop), T S (f + 9) 156 0 [some (.ref 73), some (.int (nI day)), none, none, none, none, none, none, none, none] [] m Rt = Rt (some (.int (optI (akP (nevP N B) (iN N B) (fN N B) (tkV N B day)).1))) M := by
  obtain ⟨M, hK, hQ, hN⟩ := q_neverNow (S := S) h
  obtain ⟨h8, h8i, h6⟩ := Bs_m8 h
  generalize nevP N B = bits at *
  have fl : ∀ X, MQt N B X → X 73 10 = nI (fN N B) := fun X ⟨y, hy⟩ => hy.1.2.2
  have fi : ∀ X, MQt N B X → X 73 7 = nI (iN N B) := fun X ⟨y, hy⟩ => hy.1.2.1
  -- the first loop
  obtain ⟨⟨X, l4⟩, ⟨hX, hKX, hV⟩, e1⟩ := it_runE (fun i (_ : Unit) (x : AMem × Option Value) (r : Nat × (Option Value → AMem → Prop)) => T S (r.1 + 9) 156 7 [some (.ref 73), some (.int (nI day)), some (.int bits), some (.int (nI i)), x.2, none, none, none, none, none] [] x.1 r.2) (fun _ u => u) (fun i _ x => MQt N B x.1 ∧ Km m x.1 ∧ ∀ s, s < i → ∀ h, h < iN N B → x.1 98 (8 * s + h) = tkV N B day s h) (fN N B) (fun i hi u x ⟨hq, hk, hv⟩ => by
    have s1 := sh8 i (by omega)
    have h64 := p2_lt (a := i) (by omega)
    have hM2 : MWn N B (wA N B (nI (2 ^ i))) (up x.1 73 16 (nI (2 ^ i))) := MQ_set hq
    have hw2 : Wkn N B (wA N B (nI (2 ^ i))) := Bs_ok h h64
    have hE := mr_eq hw2 hM2 (z := day) (by omega)
    have hrun := fun f Rt => s_mr (S := S) (f := f) (Rt := Rt) hw2 hM2 (z := day) (by omega)
    have hX2 : MWn N B (wA N B (nI (2 ^ i))) (mRunM (mN N B) (fN N B) day (up x.1 73 16 (nI (2 ^ i)))) := MW_run hM2
    have hk2 : Km m (mRunM (mN N B) (fN N B) day (up x.1 73 16 (nI (2 ^ i)))) := Km_t hk (Km_t (Km_up (by omega)) Km_run)
    have r98 : mRunM (mN N B) (fN N B) day (up x.1 73 16 (nI (2 ^ i))) 98 = x.1 98 := by rw [run_row (by omega), up_row (by decide)]
    have hle : (nI (fN N B) ≤ nI i) = False := by rw [nI_le8 (by omega) (by omega)]; exact eq_false (by omega)
    have hfl := fl _ hq
    generalize mRunM (mN N B) (fN N B) day (up x.1 73 16 (nI (2 ^ i))) = Y at *
    have row : ∀ n Y a, a ≠ 98 → it n (fun h (Y : AMem) => up Y 98 (8 * i + h) (Y 89 h)) Y a = Y a := fun n Y a ha => it_row (fun k m => up_row ha) n Y
    have hcell : ∀ n, n ≤ iN N B → ∀ h, h < n → it n (fun h (Y : AMem) => up Y 98 (8 * i + h) (Y 89 h)) Y 98 (8 * i + h) = Y 89 h := by
      intro n
      induction n with
      | zero => intro _ h hh; omega
      | succ n ih =>
        intro hn h hh
        rw [it_s]
        by_cases z : h = n
        · subst z
          rw [up_at, row _ _ _ (by decide)]
        · rw [up_off (by omega)]
          exact ih (by omega) h (by omega)
    have hold : ∀ n, n ≤ iN N B → ∀ j, j < 8 * i → it n (fun h (Y : AMem) => up Y 98 (8 * i + h) (Y 89 h)) Y 98 j = Y 98 j := by
      intro n
      induction n with
      | zero => intro _ j hj; rfl
      | succ n ih =>
        intro hn j hj
        rw [it_s, up_off (by omega)]
        exact ih (by omega) j hj
    have hfi : ∀ n, it n (fun h (Y : AMem) => up Y 98 (8 * i + h) (Y 89 h)) Y 73 7 = nI (iN N B) := fun n => by
      rw [row _ _ _ (by decide)]
      exact hX2.1.2.1
    have e := fun (f : Nat) (Rt : Option Value → AMem → Prop) => it_run (fun h (Y2 : AMem) => T S (f + 9) 156 30 [some (.ref 73), some (.int (nI day)), some (.int bits), some (.int (nI i)), some (.int (nI h)), none, none, none, none, none] [] Y2 Rt) (fun h (Y : AMem) => up Y 98 (8 * i + h) (Y 89 h)) (fun _ Y2 => Y2 73 7 = nI (iN N B)) (iN N B) (fun k _ s hs => by rw [up_row (by decide)]; exact hs) (fun h hh Y2 hY2 => by
      have hle2 : (nI (iN N B) ≤ nI h) = False := by rw [nI_le8 (by omega) (by omega)]; exact eq_false (by omega)
      have hB8 : inB (nI h) 8 = true := inB8 (by omega) (by decide)
      have hc : (nI h).toNatClampNeg = h := nI_cl8 (by omega)
      have hB48 : inB (nI (8 * i + h)) 48 = true := inB8 (by omega) (by decide)
      have hc48 : (nI (8 * i + h)).toNatClampNeg = 8 * i + h := nI_cl8 (by omega)
      refine u156_30.trans ?_
      simp only [u156_32, u156_33, u156_36, u156_39, u156_40, u156_43, u156_45, u156_46, u156_47, u156_49, u156_50, u156_51, u156_54, u156_56, u156_57, u156_58, u156_61, hY2, hle2, if_false, hB8, hc, true_and, nI_mul8, nI_add, hB48, hc48]) Y (hfi 0)
    refine ⟨(it (iN N B) (fun h (Y : AMem) => up Y 98 (8 * i + h) (Y 89 h)) Y, some (.int (nI (iN N B)))), ⟨⟨nI (2 ^ i), MW_keep hX2 (fun j _ => congrFun (row _ _ 73 (by decide)) j) (fun a h1 h2 => row _ _ _ (by omega))⟩, Km_t hk2 (Km_rows (fun a a1 a2 a3 => row _ _ _ a3) (fun j _ => congrFun (row _ _ 73 (by decide)) j)), fun s hs h hh => ?_⟩, fun r => ?_⟩
    · by_cases z : s = i
      · subst z
        dsimp only
        rw [hcell _ (Nat.le_refl _) h hh]
        exact hE.2.1 h (by omega)
      · dsimp only
        rw [hold _ (Nat.le_refl _) _ (by omega), r98]
        exact hv s (by omega) h hh
    · refine u156_7.trans ?_
      simp only [u156_8, u156_9, u156_12, u156_15, u156_16, u156_17, u156_18, u156_19, u156_22, u156_23, u156_24, u156_27, u156_28, hfl, hle, if_false, s1, hrun, pu_some, pu_none, e]
      refine u156_30.trans ?_
      simp (disch := omega) only [u156_32, u156_33, u156_36, u156_64, u156_67, hfi, nI_le8, Nat.le_refl, if_true, nI_add]) () (M, none) ⟨hQ, hK, fun s hs => by omega⟩
  refine ⟨X, hKX, hX, fun f Rt => ?_⟩
  have e1 := e1 (f, Rt)
  dsimp only at hV e1
  have hfl := fl X hX
  have hfi := fi X hX
  -- the inner loops
  have z1 : ¬ nI 1 = nI 0 := by decide
  have kN : ∀ (bst : Option Value) (lst : Option Value) (hh : Nat), hh < iN N B → ∀ (mo i : Nat), i < fN N B → ∀ l8 l9, ∃ l9', T S (f + 9) 156 93 [some (.ref 73), some (.int (nI day)), some (.int bits), bst, lst, some (.int (nI hh)), some (.int (nI mo)), some (.int (nI i)), l8, l9] [] X Rt = T S (f + 9) 156 180 [some (.ref 73), some (.int (nI day)), some (.int bits), bst, lst, some (.int (nI hh)), some (.int (nI mo)), some (.int (nI i)), some (.int (nI (alP bits (fN N B) (tkV N B day) hh i))), l9'] [] X Rt := fun bst lst hh hhi mo i hi l8 l9 => by
    have hle : (nI (fN N B) ≤ nI i) = False := by rw [nI_le8 (by omega) (by omega)]; exact eq_false (by omega)
    have hB1 : inB (nI (8 * i + hh)) 48 = true := inB8 (by omega) (by decide)
    have hc1 : (nI (8 * i + hh)).toNatClampNeg = 8 * i + hh := nI_cl8 (by omega)
    have e := it_run (fun s (n : Nat) => T S (f + 9) 156 108 [some (.ref 73), some (.int (nI day)), some (.int bits), bst, lst, some (.int (nI hh)), some (.int (nI mo)), some (.int (nI i)), some (.int (nI n)), some (.int (nI s))] [] X Rt) (fun b n => if ((bits >>> (nI i &&& 31)) &&& nI 1 = nI 1 ∧ (bits >>> (nI b &&& 31)) &&& nI 1 = nI 1) ∧ tkV N B day i hh = tkV N B day b hh then n + 1 else n) (fun _ _ => True) (fN N B) (fun _ _ _ _ => trivial) (fun s hs n _ => by
      have hle2 : (nI (fN N B) ≤ nI s) = False := by rw [nI_le8 (by omega) (by omega)]; exact eq_false (by omega)
      have hB2 : inB (nI (8 * s + hh)) 48 = true := inB8 (by omega) (by decide)
      have hc2 : (nI (8 * s + hh)).toNatClampNeg = 8 * s + hh := nI_cl8 (by omega)
      refine u156_108.trans ?_
      by_cases q1 : (bits >>> (nI i &&& 31)) &&& nI 1 = nI 1
      · by_cases q2 : (bits >>> (nI s &&& 31)) &&& nI 1 = nI 1
        · by_cases q3 : tkV N B day i hh = tkV N B day s hh
          · rw [if_pos ⟨⟨q1, q2⟩, q3⟩]
            simp only [u156_0, u156_1, u156_4, u156_5, u156_6, u156_8, u156_9, u156_12, u156_15, u156_16, u156_17, u156_18, u156_19, u156_22, u156_23, u156_24, u156_27, u156_28, u156_32, u156_33, u156_36, u156_39, u156_40, u156_43, u156_45, u156_46, u156_47, u156_49, u156_50, u156_51, u156_54, u156_56, u156_57, u156_58, u156_61, u156_64, u156_67, u156_70, u156_71, u156_72, u156_73, u156_75, u156_76, u156_80, u156_81, u156_84, u156_87, u156_88, u156_90, u156_91, u156_95, u156_96, u156_99, u156_102, u156_103, u156_105, u156_106, u156_110, u156_111, u156_114, u156_117, u156_119, u156_120, u156_122, u156_125, u156_128, u156_129, u156_131, u156_134, u156_137, u156_138, u156_141, u156_143, u156_145, u156_146, u156_148, u156_149, u156_150, u156_151, u156_154, u156_156, u156_158, u156_159, u156_161, u156_162, u156_163, u156_166, u156_167, u156_170, u156_171, u156_172, u156_174, u156_177, u156_182, u156_184, u156_187, u156_189, u156_192, u156_194, u156_196, u156_199, u156_202, u156_203, u156_204, u156_207, u156_209, u156_211, u156_214, u156_215, u156_218, u156_219, u156_221, u156_223, u156_226, u156_228, u156_231, u156_232, u156_233, u156_235, u156_238, u156_240, u156_243, u156_245, u156_247, u156_250, u156_253, u156_254, hfl, hle2, if_false, s_mIsIn, pu_some, pu_none, b01_e0, q1, q2, not_true, nI_mul8, nI_add, hB1, hc1, hB2, hc2, true_and, hV i hi hh hhi, hV s hs hh hhi, q3, if_true]
          · rw [if_neg (fun z => q3 z.2)]
            simp only [u156_0, u156_1, u156_4, u156_5, u156_6, u156_8, u156_9, u156_12, u156_15, u156_16, u156_17, u156_18, u156_19, u156_22, u156_23, u156_24, u156_27, u156_28, u156_32, u156_33, u156_36, u156_39, u156_40, u156_43, u156_45, u156_46, u156_47, u156_49, u156_50, u156_51, u156_54, u156_56, u156_57, u156_58, u156_61, u156_64, u156_67, u156_70, u156_71, u156_72, u156_73, u156_75, u156_76, u156_80, u156_81, u156_84, u156_87, u156_88, u156_90, u156_91, u156_95, u156_96, u156_99, u156_102, u156_103, u156_105, u156_106, u156_110, u156_111, u156_114, u156_117, u156_119, u156_120, u156_122, u156_125, u156_128, u156_129, u156_131, u156_134, u156_137, u156_138, u156_141, u156_143, u156_145, u156_146, u156_148, u156_149, u156_150, u156_151, u156_154, u156_156, u156_158, u156_159, u156_161, u156_162, u156_163, u156_166, u156_167, u156_170, u156_171, u156_172, u156_174, u156_177, u156_182, u156_184, u156_187, u156_189, u156_192, u156_194, u156_196, u156_199, u156_202, u156_203, u156_204, u156_207, u156_209, u156_211, u156_214, u156_215, u156_218, u156_219, u156_221, u156_223, u156_226, u156_228, u156_231, u156_232, u156_233, u156_235, u156_238, u156_240, u156_243, u156_245, u156_247, u156_250, u156_253, u156_254, hfl, hle2, if_false, s_mIsIn, pu_some, pu_none, b01_e0, q1, q2, not_true, nI_mul8, nI_add, hB1, hc1, hB2, hc2, true_and, hV i hi hh hhi, hV s hs hh hhi, q3, Nat.add_zero]
        · rw [if_neg (fun z => q2 z.1.2)]
          simp only [u156_0, u156_1, u156_4, u156_5, u156_6, u156_8, u156_9, u156_12, u156_15, u156_16, u156_17, u156_18, u156_19, u156_22, u156_23, u156_24, u156_27, u156_28, u156_32, u156_33, u156_36, u156_39, u156_40, u156_43, u156_45, u156_46, u156_47, u156_49, u156_50, u156_51, u156_54, u156_56, u156_57, u156_58, u156_61, u156_64, u156_67, u156_70, u156_71, u156_72, u156_73, u156_75, u156_76, u156_80, u156_81, u156_84, u156_87, u156_88, u156_90, u156_91, u156_95, u156_96, u156_99, u156_102, u156_103, u156_105, u156_106, u156_110, u156_111, u156_114, u156_117, u156_119, u156_120, u156_122, u156_125, u156_128, u156_129, u156_131, u156_134, u156_137, u156_138, u156_141, u156_143, u156_145, u156_146, u156_148, u156_149, u156_150, u156_151, u156_154, u156_156, u156_158, u156_159, u156_161, u156_162, u156_163, u156_166, u156_167, u156_170, u156_171, u156_172, u156_174, u156_177, u156_182, u156_184, u156_187, u156_189, u156_192, u156_194, u156_196, u156_199, u156_202, u156_203, u156_204, u156_207, u156_209, u156_211, u156_214, u156_215, u156_218, u156_219, u156_221, u156_223, u156_226, u156_228, u156_231, u156_232, u156_233, u156_235, u156_238, u156_240, u156_243, u156_245, u156_247, u156_250, u156_253, u156_254, hfl, hle2, if_false, s_mIsIn, pu_some, pu_none, b01_e0, q1, q2, not_true, not_false_iff, if_true, nI_add, Nat.add_zero]
      · rw [if_neg (fun z => q1 z.1.1)]
        simp only [u156_0, u156_1, u156_4, u156_5, u156_6, u156_8, u156_9, u156_12, u156_15, u156_16, u156_17, u156_18, u156_19, u156_22, u156_23, u156_24, u156_27, u156_28, u156_32, u156_33, u156_36, u156_39, u156_40, u156_43, u156_45, u156_46, u156_47, u156_49, u156_50, u156_51, u156_54, u156_56, u156_57, u156_58, u156_61, u156_64, u156_67, u156_70, u156_71, u156_72, u156_73, u156_75, u156_76, u156_80, u156_81, u156_84, u156_87, u156_88, u156_90, u156_91, u156_95, u156_96, u156_99, u156_102, u156_103, u156_105, u156_106, u156_110, u156_111, u156_114, u156_117, u156_119, u156_120, u156_122, u156_125, u156_128, u156_129, u156_131, u156_134, u156_137, u156_138, u156_141, u156_143, u156_145, u156_146, u156_148, u156_149, u156_150, u156_151, u156_154, u156_156, u156_158, u156_159, u156_161, u156_162, u156_163, u156_166, u156_167, u156_170, u156_171, u156_172, u156_174, u156_177, u156_182, u156_184, u156_187, u156_189, u156_192, u156_194, u156_196, u156_199, u156_202, u156_203, u156_204, u156_207, u156_209, u156_211, u156_214, u156_215, u156_218, u156_219, u156_221, u156_223, u156_226, u156_228, u156_231, u156_232, u156_233, u156_235, u156_238, u156_240, u156_243, u156_245, u156_247, u156_250, u156_253, u156_254, hfl, hle2, if_false, s_mIsIn, pu_some, pu_none, b01_e0, q1, not_false_iff, if_true, nI_add, Nat.add_zero]) 0 trivial
    refine ⟨some (.int (nI (fN N B))), u156_93.trans ?_⟩
    simp only [u156_95, u156_96, u156_99, u156_102, u156_103, u156_105, u156_106, hfl, hle, if_false]
    refine e.trans (u156_108.trans ?_)
    simp (disch := omega) only [u156_110, u156_111, u156_114, hfl, nI_le8, Nat.le_refl, if_true]
    rfl
  have kM : ∀ (bst : Option Value) (lst : Option Value) (hh : Nat), hh < iN N B → ∀ l8 l9, ∃ l8' l9', T S (f + 9) 156 93 [some (.ref 73), some (.int (nI day)), some (.int bits), bst, lst, some (.int (nI hh)), some (.int (nI 0)), some (.int (nI 0)), l8, l9] [] X Rt = T S (f + 9) 156 202 [some (.ref 73), some (.int (nI day)), some (.int bits), bst, lst, some (.int (nI hh)), some (.int (nI (grP bits (fN N B) (tkV N B day) hh))), some (.int (nI (fN N B))), l8', l9'] [] X Rt := fun bst lst hh hhi l8 l9 => by
    obtain ⟨l, e⟩ := it_runL (fun i (g : Nat) (l : Option Value × Option Value) => T S (f + 9) 156 93 [some (.ref 73), some (.int (nI day)), some (.int bits), bst, lst, some (.int (nI hh)), some (.int (nI g)), some (.int (nI i)), l.1, l.2] [] X Rt) (fun a g => if g < alP bits (fN N B) (tkV N B day) hh a then alP bits (fN N B) (tkV N B day) hh a else g) (fun _ g => g ≤ fN N B) (fN N B) (fun k _ g hg => by split; exact al_le; exact hg) (fun i hi g l hg => by
      obtain ⟨l9', e⟩ := kN bst lst hh hhi g i hi l.1 l.2
      have hal := al_le (bits := bits) (fleet := fN N B) (h := hh) (a := i) (V := tkV N B day)
      refine ⟨(some (.int (nI (alP bits (fN N B) (tkV N B day) hh i))), l9'), e.trans ?_⟩
      generalize alP bits (fN N B) (tkV N B day) hh i = a at *
      by_cases q : g < a
      · have q2 : ¬ a ≤ g := by omega
        rw [if_pos q]
        simp (disch := omega) only [u156_180, u156_182, u156_184, u156_187, u156_189, u156_194, u156_196, u156_199, nI_le8, q2, if_false, nI_add]
      · have q2 : a ≤ g := by omega
        rw [if_neg q]
        simp (disch := omega) only [u156_180, u156_182, u156_184, u156_192, u156_194, u156_196, u156_199, nI_le8, q2, if_true, nI_add]) 0 (l8, l9) (Nat.zero_le _)
    refine ⟨l.1, l.2, e.trans (u156_93.trans ?_)⟩
    simp (disch := omega) only [u156_95, u156_96, u156_99, hfl, nI_le8, Nat.le_refl, if_true]
    rfl
  obtain ⟨l, e2⟩ := it_runL (fun i (s : Option Nat × Nat) (l : Option Value × Option Value × Option Value × Option Value) => T S (f + 9) 156 78 [some (.ref 73), some (.int (nI day)), some (.int bits), some (.int (optI s.1)), some (.int (nI s.2)), some (.int (nI i)), l.1, l.2.1, l.2.2.1, l.2.2.2] [] X Rt) (akF bits (fN N B) (tkV N B day)) (fun i s => (∀ j, s.1 = some j → j < i) ∧ s.2 ≤ fN N B) (iN N B) (fun k hk s hs => by
    obtain ⟨s1, s2⟩ := s
    unfold akF
    cases s1 with
    | none => exact ⟨fun j hj => by have : k = j := Option.some.inj hj; omega, gr_le⟩
    | some j0 =>
      dsimp only
      split
      · exact ⟨fun j hj => by have : k = j := Option.some.inj hj; omega, gr_le⟩
      · exact ⟨fun j hj => by have := hs.1 j hj; omega, hs.2⟩) (fun i hi s l hs => by
    have hle : (nI (iN N B) ≤ nI i) = False := by rw [nI_le8 (by omega) (by omega)]; exact eq_false (by omega)
    obtain ⟨s1, s2⟩ := s
    obtain ⟨l8', l9', e⟩ := kM (some (.int (optI s1))) (some (.int (nI s2))) i hi l.2.2.1 l.2.2.2
    have hgr := gr_le (bits := bits) (fleet := fN N B) (h := i) (V := tkV N B day)
    have hs2 : s2 ≤ fN N B := hs.2
    have head : ∀ l1 l2, T S (f + 9) 156 78 [some (.ref 73), some (.int (nI day)), some (.int bits), some (.int (optI s1)), some (.int (nI s2)), some (.int (nI i)), l1, l2, l.2.2.1, l.2.2.2] [] X Rt = _ := fun l1 l2 => u156_78.trans ((by simp only [u156_80, u156_81, u156_84, u156_87, u156_88, u156_90, u156_91, hfi, hle, if_false] : _ = _).trans e)
    unfold akF
    generalize grP bits (fN N B) (tkV N B day) i = g at *
    cases s1 with
    | none =>
      refine ⟨(some (.int (nI g)), some (.int (nI 1)), l8', l9'), (head _ _).trans ?_⟩
      simp only [u156_0, u156_1, u156_4, u156_5, u156_6, u156_8, u156_9, u156_12, u156_15, u156_16, u156_17, u156_18, u156_19, u156_22, u156_23, u156_24, u156_27, u156_28, u156_32, u156_33, u156_36, u156_39, u156_40, u156_43, u156_45, u156_46, u156_47, u156_49, u156_50, u156_51, u156_54, u156_56, u156_57, u156_58, u156_61, u156_64, u156_67, u156_70, u156_71, u156_72, u156_73, u156_75, u156_76, u156_80, u156_81, u156_84, u156_87, u156_88, u156_90, u156_91, u156_95, u156_96, u156_99, u156_102, u156_103, u156_105, u156_106, u156_110, u156_111, u156_114, u156_117, u156_119, u156_120, u156_122, u156_125, u156_128, u156_129, u156_131, u156_134, u156_137, u156_138, u156_141, u156_143, u156_145, u156_146, u156_148, u156_149, u156_150, u156_151, u156_154, u156_156, u156_158, u156_159, u156_161, u156_162, u156_163, u156_166, u156_167, u156_170, u156_171, u156_172, u156_174, u156_177, u156_182, u156_184, u156_187, u156_189, u156_192, u156_194, u156_196, u156_199, u156_202, u156_203, u156_204, u156_207, u156_209, u156_211, u156_214, u156_215, u156_218, u156_219, u156_221, u156_223, u156_226, u156_228, u156_231, u156_232, u156_233, u156_235, u156_238, u156_240, u156_243, u156_245, u156_247, u156_250, u156_253, u156_254, optI_none, if_true, z1, if_false, nI_add, optI_some]
    | some j =>
      have hj := hs.1 j rfl
      have hn1 := nI_ne1 (k := j) (by omega)
      by_cases q : g < s2
      · have q2 : ¬ s2 ≤ g := by omega
        refine ⟨(some (.int (nI g)), some (.int (nI 1)), l8', l9'), (head _ _).trans ?_⟩
        dsimp only
        rw [if_pos q]
        simp (disch := omega) only [u156_0, u156_1, u156_4, u156_5, u156_6, u156_8, u156_9, u156_12, u156_15, u156_16, u156_17, u156_18, u156_19, u156_22, u156_23, u156_24, u156_27, u156_28, u156_32, u156_33, u156_36, u156_39, u156_40, u156_43, u156_45, u156_46, u156_47, u156_49, u156_50, u156_51, u156_54, u156_56, u156_57, u156_58, u156_61, u156_64, u156_67, u156_70, u156_71, u156_72, u156_73, u156_75, u156_76, u156_80, u156_81, u156_84, u156_87, u156_88, u156_90, u156_91, u156_95, u156_96, u156_99, u156_102, u156_103, u156_105, u156_106, u156_110, u156_111, u156_114, u156_117, u156_119, u156_120, u156_122, u156_125, u156_128, u156_129, u156_131, u156_134, u156_137, u156_138, u156_141, u156_143, u156_145, u156_146, u156_148, u156_149, u156_150, u156_151, u156_154, u156_156, u156_158, u156_159, u156_161, u156_162, u156_163, u156_166, u156_167, u156_170, u156_171, u156_172, u156_174, u156_177, u156_182, u156_184, u156_187, u156_189, u156_192, u156_194, u156_196, u156_199, u156_202, u156_203, u156_204, u156_207, u156_209, u156_211, u156_214, u156_215, u156_218, u156_219, u156_221, u156_223, u156_226, u156_228, u156_231, u156_232, u156_233, u156_235, u156_238, u156_240, u156_243, u156_245, u156_247, u156_250, u156_253, u156_254, optI_some, hn1, nI_le8, q2, if_true, z1, if_false, nI_add]
      · have q2 : s2 ≤ g := by omega
        refine ⟨(some (.int (nI g)), some (.int (nI 0)), l8', l9'), (head _ _).trans ?_⟩
        dsimp only
        rw [if_neg q]
        simp (disch := omega) only [u156_0, u156_1, u156_4, u156_5, u156_6, u156_8, u156_9, u156_12, u156_15, u156_16, u156_17, u156_18, u156_19, u156_22, u156_23, u156_24, u156_27, u156_28, u156_32, u156_33, u156_36, u156_39, u156_40, u156_43, u156_45, u156_46, u156_47, u156_49, u156_50, u156_51, u156_54, u156_56, u156_57, u156_58, u156_61, u156_64, u156_67, u156_70, u156_71, u156_72, u156_73, u156_75, u156_76, u156_80, u156_81, u156_84, u156_87, u156_88, u156_90, u156_91, u156_95, u156_96, u156_99, u156_102, u156_103, u156_105, u156_106, u156_110, u156_111, u156_114, u156_117, u156_119, u156_120, u156_122, u156_125, u156_128, u156_129, u156_131, u156_134, u156_137, u156_138, u156_141, u156_143, u156_145, u156_146, u156_148, u156_149, u156_150, u156_151, u156_154, u156_156, u156_158, u156_159, u156_161, u156_162, u156_163, u156_166, u156_167, u156_170, u156_171, u156_172, u156_174, u156_177, u156_182, u156_184, u156_187, u156_189, u156_192, u156_194, u156_196, u156_199, u156_202, u156_203, u156_204, u156_207, u156_209, u156_211, u156_214, u156_215, u156_218, u156_219, u156_221, u156_223, u156_226, u156_228, u156_231, u156_232, u156_233, u156_235, u156_238, u156_240, u156_243, u156_245, u156_247, u156_250, u156_253, u156_254, optI_some, hn1, nI_le8, q2, if_true, if_false, nI_add]) (none, 0) (none, none, none, none) ⟨fun j hj => (by cases hj), Nat.zero_le _⟩
  refine Eq.trans ?_ (e1.trans ?_)
  · simp only [u156_0, u156_1, u156_4, u156_5, u156_6, hN, pu_some, pu_none]
  · refine u156_7.trans ?_
    simp (disch := omega) only [u156_8, u156_9, u156_12, u156_70, u156_71, u156_72, u156_73, u156_75, u156_76, hfl, nI_le8, Nat.le_refl, if_true]
    refine Eq.trans ?_ (e2.trans ?_)
    · rw [optI_none]
    · refine u156_78.trans ?_
      simp (disch := omega) only [u156_80, u156_81, u156_84, u156_253, u156_254, hfi, nI_le8, Nat.le_refl, if_true]
      rfl
end MAK
