section MPL
variable {S : AScr} {m M : AMem} {men inns fleet : Nat} {w : AMem} {N : Nat → Nat} {B : Nat → Nat → Nat}
theorem ex_up {n i x v r k : Nat} (h : ∃ a, a < n ∧ w r k = nI a) (hv : r = i → v < n) : ∃ a, a < n ∧ up w i x (nI v) r k = nI a := by
  rw [up_ap]
  by_cases z : r = i ∧ k = x
  · rw [if_pos z]
    exact ⟨v, hv z.1, rfl⟩
  · rw [if_neg z]
    exact h
theorem Wok_up {i x v : Nat} (hw : Wok men inns fleet w) (hi : 1 ≤ i) (hv : v < 10 ∧ (i = 1 → v < 4) ∧ (i = 4 → v < 8)) : Wok men inns fleet (up w i x (nI v)) := by
  obtain ⟨h1, h2, h3, h4, h5, h6⟩ := hw
  refine ⟨h1, fun k hk => ?_, fun k hk => ?_, fun k hk => ?_, ?_, ?_⟩
  · obtain ⟨a1, a2, a3, a4⟩ := h2 k hk
    exact ⟨ex_up a1 (fun z => hv.2.1 z.symm), ex_up a2 (fun z => hv.1), ex_up a3 (fun z => hv.1), ex_up a4 (fun z => hv.2.2 z.symm)⟩
  · obtain ⟨a1, a2⟩ := h3 k hk
    exact ⟨ex_up a1 (fun z => hv.1), ex_up a2 (fun z => hv.1)⟩
  · obtain ⟨a1, a2, a3, a4⟩ := h4 k hk
    exact ⟨ex_up a1 (fun z => by omega), ex_up a2 (fun z => by omega), ex_up a3 (fun z => hv.1), ex_up a4 (fun z => hv.1)⟩
  · rw [up_row (by omega)]; exact h5
  · rw [up_row (by omega)]; exact h6
theorem Wok_abs {a : Nat} (hw : Wok men inns fleet w) (ha : a < 64) : Wok men inns fleet (up w 0 4 (nI a)) := by
  obtain ⟨h1, h2, h3, h4, h5, h6⟩ := hw
  refine ⟨h1, fun k hk => ?_, fun k hk => ?_, fun k hk => ?_, ?_, ⟨a, ha, up_at⟩⟩
  · rw [up_row (by decide), up_row (by decide), up_row (by decide), up_row (by decide)]
    exact h2 k hk
  · rw [up_row (by decide), up_row (by decide)]
    exact h3 k hk
  · rw [up_row (by decide), up_row (by decide), up_row (by decide), up_row (by decide)]
    exact h4 k hk
  · rw [up_off (by decide)]
    exact h5
def prF (p : Nat → Int32) (k : Nat) (s : Option Nat × Int32) : Option Nat × Int32 := match s.1 with
  | none => (some k, p k)
  | some j => if s.2 < p k then (some k, p k) else (some j, s.2)
def prV (N : Nat → Nat) (B : Nat → Nat → Nat) (h k : Nat) : Int32 := RR N B (up (w0 N B) 5 h (nI k)) 29 89 h
def prP (N : Nat → Nat) (B : Nat → Nat → Nat) (h : Nat) : Option Nat × Int32 := it 10 (prF (prV N B h)) (none, nI 0)
set_option maxHeartbeats 1000000 in
theorem q_priceOf (h : Bs N B m) {k : Nat} {v : Int32} (hk : k < iN N B) : ∃ M, Km m M ∧ MQt N B M ∧ ∀ (f : Nat) (Rt : Option Value → AMem → Prop), T S (f + 8) 136 0 [some (.ref 73), some (.int (nI k)), some (.int v), none, none, none, none, none] [] m Rt = Rt (some (.int (if v = nI 0 then optI (prP N B k).1 else (prP N B k).2))) M := by
  obtain ⟨M, x, hR, hK, hM⟩ := rd_ok (S := S) h
  obtain ⟨h8, h8i, h6⟩ := Bs_m8 h
  have hw := Bs_ok0 h
  have h0 : MWn N B (w0 N B) (up M 73 16 (nI 0)) := MQ_set ⟨x, hM⟩
  have hB8 : inB (nI k) 8 = true := inB8 (by omega) (by decide)
  have hB9 : inB (nI k) 9 = true := inB8 (by omega) (by decide)
  have hc : (nI k).toNatClampNeg = k := nI_cl8 (by omega)
  have e5 : M 80 k = w0 N B 5 k := hM.2.2.2.1 5 k (by omega) (by omega) hk
  obtain ⟨X, ⟨⟨v5, hX⟩, hKX⟩, e⟩ := it_runE (fun i (s : Option Nat × Int32) (x : AMem × Option Value) (r : Nat × (Option Value → AMem → Prop)) => T S (r.1 + 8) 136 25 [some (.ref 73), some (.int (nI k)), some (.int v), some (.int (w0 N B 5 k)), some (.int (optI s.1)), some (.int s.2), some (.int (nI i)), x.2] [] x.1 r.2) (prF (prV N B k)) (fun i s x => (∃ v5, MWn N B (up (w0 N B) 5 k v5) x.1) ∧ Km m x.1 ∧ ∀ j, s.1 = some j → j < i) 10 (fun i hi s x ⟨⟨v5, hx⟩, hkx, hsj⟩ => by
    have hM2 : MWn N B (up (w0 N B) 5 k (nI i)) (up x.1 80 k (nI i)) := by
      have := MW_up (i := 5) (x := k) (v := nI i) hx (by decide)
      rw [up_up] at this
      exact this
    have hw2 : Wkn N B (up (w0 N B) 5 k (nI i)) := Wok_up hw (by decide) ⟨hi, by omega, by omega⟩
    have hE := mr_eq hw2 hM2 (z := 29) (by decide)
    have e89 := hE.2.1 k (by omega)
    have hrun := fun f Rt => s_mr (S := S) (f := f) (Rt := Rt) hw2 hM2 (z := 29) (by decide)
    have hX2 : MWn N B (up (w0 N B) 5 k (nI i)) (mRunM (mN N B) (fN N B) 29 (up x.1 80 k (nI i))) := MW_run hM2
    have hk2 : Km m (mRunM (mN N B) (fN N B) 29 (up x.1 80 k (nI i))) := Km_t hkx (Km_t (Km_up (by omega)) Km_run)
    have h10 : ¬ 10 ≤ i := by omega
    have z1 : ¬ nI 1 = nI 0 := by decide
    have ev : prV N B k i = RR N B (up (w0 N B) 5 k (nI i)) 29 89 k := rfl
    obtain ⟨s1, s2⟩ := s
    unfold prF
    rw [ev, ← e89]
    generalize mRunM (mN N B) (fN N B) 29 (up x.1 80 k (nI i)) = X at *
    cases s1 with
    | none =>
      refine ⟨(X, some (.int (nI 1))), ⟨⟨nI i, hX2⟩, hk2, fun j hj => by have : i = j := Option.some.inj hj; omega⟩, fun r => u136_25.trans ?_⟩
      simp (disch := omega) only [u136_0, u136_1, u136_4, u136_5, u136_6, u136_9, u136_10, u136_13, u136_14, u136_15, u136_16, u136_17, u136_19, u136_20, u136_22, u136_23, u136_27, u136_29, u136_32, u136_33, u136_36, u136_37, u136_39, u136_40, u136_41, u136_43, u136_46, u136_48, u136_49, u136_52, u136_53, u136_56, u136_57, u136_58, u136_60, u136_63, u136_64, u136_67, u136_68, u136_70, u136_72, u136_75, u136_77, u136_80, u136_82, u136_84, u136_86, u136_89, u136_90, u136_93, u136_94, u136_95, u136_98, u136_100, u136_102, u136_105, u136_108, u136_109, u136_112, u136_113, u136_114, u136_115, u136_116, u136_119, u136_121, u136_124, u136_126, nI_le8, h10, if_false, hB8, hB9, hc, true_and, hrun, pu_some, pu_none, optI_none, if_true, z1, nI_add, optI_some]
    | some j =>
      have hj := hsj j rfl
      have hn1 := nI_ne1 (k := j) (by omega)
      by_cases q : s2 < X 89 k
      · refine ⟨(X, some (.int (nI 1))), ⟨⟨nI i, hX2⟩, hk2, fun j hj => ?_⟩, fun r => u136_25.trans ?_⟩
        · dsimp only at hj
          rw [if_pos q] at hj
          have : i = j := Option.some.inj hj
          omega
        · dsimp only
          rw [if_pos q]
          simp (disch := omega) only [u136_0, u136_1, u136_4, u136_5, u136_6, u136_9, u136_10, u136_13, u136_14, u136_15, u136_16, u136_17, u136_19, u136_20, u136_22, u136_23, u136_27, u136_29, u136_32, u136_33, u136_36, u136_37, u136_39, u136_40, u136_41, u136_43, u136_46, u136_48, u136_49, u136_52, u136_53, u136_56, u136_57, u136_58, u136_60, u136_63, u136_64, u136_67, u136_68, u136_70, u136_72, u136_75, u136_77, u136_80, u136_82, u136_84, u136_86, u136_89, u136_90, u136_93, u136_94, u136_95, u136_98, u136_100, u136_102, u136_105, u136_108, u136_109, u136_112, u136_113, u136_114, u136_115, u136_116, u136_119, u136_121, u136_124, u136_126, nI_le8, h10, if_false, hB8, hB9, hc, true_and, hrun, pu_some, pu_none, optI_some, hn1, le_n (X 89 k) s2, q, not_true, if_true, z1, nI_add]
      · refine ⟨(X, some (.int (nI 0))), ⟨⟨nI i, hX2⟩, hk2, fun j hj => ?_⟩, fun r => u136_25.trans ?_⟩
        · dsimp only at hj
          rw [if_neg q] at hj
          have := hsj j hj
          omega
        · dsimp only
          rw [if_neg q]
          simp (disch := omega) only [u136_0, u136_1, u136_4, u136_5, u136_6, u136_9, u136_10, u136_13, u136_14, u136_15, u136_16, u136_17, u136_19, u136_20, u136_22, u136_23, u136_27, u136_29, u136_32, u136_33, u136_36, u136_37, u136_39, u136_40, u136_41, u136_43, u136_46, u136_48, u136_49, u136_52, u136_53, u136_56, u136_57, u136_58, u136_60, u136_63, u136_64, u136_67, u136_68, u136_70, u136_72, u136_75, u136_77, u136_80, u136_82, u136_84, u136_86, u136_89, u136_90, u136_93, u136_94, u136_95, u136_98, u136_100, u136_102, u136_105, u136_108, u136_109, u136_112, u136_113, u136_114, u136_115, u136_116, u136_119, u136_121, u136_124, u136_126, nI_le8, h10, if_false, hB8, hB9, hc, true_and, hrun, pu_some, pu_none, optI_some, hn1, le_n (X 89 k) s2, q, not_false_iff, if_true, nI_add]) (none, nI 0) (up M 73 16 (nI 0), none) ⟨⟨w0 N B 5 k, by rw [up_same]; exact h0⟩, Km_t hK (Km_up (Or.inl ⟨rfl, by decide⟩)), fun j hj => by cases hj⟩
  have hF : MWn N B (w0 N B) (up X.1 80 k (w0 N B 5 k)) := by
    have := MW_up (i := 5) (x := k) (v := w0 N B 5 k) hX (by decide)
    rw [up_up, up_same] at this
    exact this
  refine ⟨up X.1 80 k (w0 N B 5 k), Km_t hKX.1 (Km_up (by omega)), MQ_0 hF, fun f Rt => ?_⟩
  have e := e (f, Rt)
  refine Eq.trans ?_ (e.trans ?_)
  · simp only [u136_0, u136_1, u136_4, u136_5, u136_6, u136_9, u136_10, u136_13, u136_14, u136_15, u136_16, u136_17, u136_19, u136_20, u136_22, u136_23, u136_27, u136_29, u136_32, u136_33, u136_36, u136_37, u136_39, u136_40, u136_41, u136_43, u136_46, u136_48, u136_49, u136_52, u136_53, u136_56, u136_57, u136_58, u136_60, u136_63, u136_64, u136_67, u136_68, u136_70, u136_72, u136_75, u136_77, u136_80, u136_82, u136_84, u136_86, u136_89, u136_90, u136_93, u136_94, u136_95, u136_98, u136_100, u136_102, u136_105, u136_108, u136_109, u136_112, u136_113, u136_114, u136_115, u136_116, u136_119, u136_121, u136_124, u136_126, Rd_e hR, pu_some, pu_none, hB9, hc, true_and, up_row (show (80 : Nat) ≠ 73 by decide), e5, optI_none]
  · refine u136_25.trans ?_
    by_cases v0 : v = nI 0
    · simp (disch := omega) only [u136_0, u136_1, u136_4, u136_5, u136_6, u136_9, u136_10, u136_13, u136_14, u136_15, u136_16, u136_17, u136_19, u136_20, u136_22, u136_23, u136_27, u136_29, u136_32, u136_33, u136_36, u136_37, u136_39, u136_40, u136_41, u136_43, u136_46, u136_48, u136_49, u136_52, u136_53, u136_56, u136_57, u136_58, u136_60, u136_63, u136_64, u136_67, u136_68, u136_70, u136_72, u136_75, u136_77, u136_80, u136_82, u136_84, u136_86, u136_89, u136_90, u136_93, u136_94, u136_95, u136_98, u136_100, u136_102, u136_105, u136_108, u136_109, u136_112, u136_113, u136_114, u136_115, u136_116, u136_119, u136_121, u136_124, u136_126, nI_le8, Nat.le_refl, if_true, v0, hB9, hc, true_and]
      rfl
    · simp (disch := omega) only [u136_0, u136_1, u136_4, u136_5, u136_6, u136_9, u136_10, u136_13, u136_14, u136_15, u136_16, u136_17, u136_19, u136_20, u136_22, u136_23, u136_27, u136_29, u136_32, u136_33, u136_36, u136_37, u136_39, u136_40, u136_41, u136_43, u136_46, u136_48, u136_49, u136_52, u136_53, u136_56, u136_57, u136_58, u136_60, u136_63, u136_64, u136_67, u136_68, u136_70, u136_72, u136_75, u136_77, u136_80, u136_82, u136_84, u136_86, u136_89, u136_90, u136_93, u136_94, u136_95, u136_98, u136_100, u136_102, u136_105, u136_108, u136_109, u136_112, u136_113, u136_114, u136_115, u136_116, u136_119, u136_121, u136_124, u136_126, nI_le8, Nat.le_refl, if_true, if_false, v0, hB9, hc, true_and]
      rfl
def loB (N : Nat → Nat) (B : Nat → Nat → Nat) (x k : Nat) : Int32 := if RR N B (up (w0 N B) 4 x (nI k)) 29 93 x = -1 then nI 99 else RR N B (up (w0 N B) 4 x (nI k)) 29 93 x
def loF (N : Nat → Nat) (B : Nat → Nat → Nat) (x k : Nat) (s : Option Nat × Int32) : Option Nat × Int32 := if RR N B (up (w0 N B) 4 x (nI k)) 29 88 x = -1 then s else prF (loB N B x) k s
def loP (N : Nat → Nat) (B : Nat → Nat → Nat) (x : Nat) : Option Nat × Int32 := it (iN N B) (loF N B x) (none, nI 0)
def loA (s : Option Nat × Int32) (v : Int32) : Int32 := if v = nI 0 then optI s.1 else match s.1 with
  | none => -1
  | some _ => if s.2 = nI 99 then -1 else s.2
set_option maxHeartbeats 1000000 in
theorem q_lodgeOf (h : Bs N B m) {k : Nat} {v : Int32} (hk : k < mN N B) : ∃ M, Km m M ∧ MQt N B M ∧ ∀ (f : Nat) (Rt : Option Value → AMem → Prop), T S (f + 8) 138 0 [some (.ref 73), some (.int (nI k)), some (.int v), none, none, none, none, none, none] [] m Rt = Rt (some (.int (loA (loP N B k) v))) M := by
  obtain ⟨M, x, hR, hK, hM⟩ := rd_ok (S := S) h
  obtain ⟨h8, h8i, h6⟩ := Bs_m8 h
  have hw := Bs_ok0 h
  have h0 : MWn N B (w0 N B) (up M 73 16 (nI 0)) := MQ_set ⟨x, hM⟩
  have hB8 : inB (nI k) 8 = true := inB8 (by omega) (by decide)
  have hB9 : inB (nI k) 9 = true := inB8 (by omega) (by decide)
  have hc : (nI k).toNatClampNeg = k := nI_cl8 (by omega)
  have e5 : M 79 k = w0 N B 4 k := hM.2.2.1 4 k (by omega) (by omega) hk
  obtain ⟨X, ⟨⟨v5, hX⟩, hKX⟩, e⟩ := it_runE (fun i (s : Option Nat × Int32) (x : AMem × Option Value × Option Value) (r : Nat × (Option Value → AMem → Prop)) => T S (r.1 + 8) 138 25 [some (.ref 73), some (.int (nI k)), some (.int v), some (.int (w0 N B 4 k)), some (.int (optI s.1)), some (.int s.2), some (.int (nI i)), x.2.1, x.2.2] [] x.1 r.2) (loF N B k) (fun i s x => (∃ v5, MWn N B (up (w0 N B) 4 k v5) x.1) ∧ Km m x.1 ∧ ∀ j, s.1 = some j → j < i) (iN N B) (fun i hi s x ⟨⟨v5, hx⟩, hkx, hsj⟩ => by
    have hM2 : MWn N B (up (w0 N B) 4 k (nI i)) (up x.1 79 k (nI i)) := by
      have := MW_up (i := 4) (x := k) (v := nI i) hx (by decide)
      rw [up_up] at this
      exact this
    have hw2 : Wkn N B (up (w0 N B) 4 k (nI i)) := Wok_up hw (by decide) ⟨by omega, by omega, by omega⟩
    have hE := mr_eq hw2 hM2 (z := 29) (by decide)
    obtain ⟨_, _, e88, e93⟩ := hE.1 k hk
    have hrun := fun f Rt => s_mr (S := S) (f := f) (Rt := Rt) hw2 hM2 (z := 29) (by decide)
    have hX2 : MWn N B (up (w0 N B) 4 k (nI i)) (mRunM (mN N B) (fN N B) 29 (up x.1 79 k (nI i))) := MW_run hM2
    have hk2 : Km m (mRunM (mN N B) (fN N B) 29 (up x.1 79 k (nI i))) := Km_t hkx (Km_t (Km_up (by omega)) Km_run)
    have h73 : x.1 73 7 = nI (iN N B) := hx.1.2.1
    have hle : (nI (iN N B) ≤ nI i) = False := by rw [nI_le8 (by omega) (by omega)]; exact eq_false (by omega)
    have z1 : ¬ nI 1 = nI 0 := by decide
    obtain ⟨s1, s2⟩ := s
    have head : ∃ y, y = loB N B k i ∧ ∀ r : Nat × (Option Value → AMem → Prop), T S (r.1 + 8) 138 25 [some (.ref 73), some (.int (nI k)), some (.int v), some (.int (w0 N B 4 k)), some (.int (optI s1)), some (.int s2), some (.int (nI i)), x.2.1, x.2.2] [] x.1 r.2 = T S (r.1 + 8) 138 71 [some (.ref 73), some (.int (nI k)), some (.int v), some (.int (w0 N B 4 k)), some (.int (optI s1)), some (.int s2), some (.int (nI i)), some (.int y), x.2.2] [] (mRunM (mN N B) (fN N B) 29 (up x.1 79 k (nI i))) r.2 := by
      refine ⟨loB N B k i, rfl, fun r => u138_25.trans ?_⟩
      unfold loB
      rw [← e93]
      by_cases q : mRunM (mN N B) (fN N B) 29 (up x.1 79 k (nI i)) 93 k = -1
      · simp only [u138_0, u138_1, u138_4, u138_5, u138_6, u138_9, u138_10, u138_13, u138_14, u138_15, u138_16, u138_17, u138_19, u138_20, u138_22, u138_23, u138_27, u138_28, u138_31, u138_34, u138_35, u138_38, u138_39, u138_41, u138_42, u138_43, u138_45, u138_48, u138_49, u138_52, u138_53, u138_54, u138_55, u138_58, u138_60, u138_63, u138_64, u138_67, u138_68, u138_69, u138_72, u138_75, u138_76, u138_77, u138_78, u138_81, u138_83, u138_84, u138_87, u138_89, u138_91, u138_94, u138_95, u138_98, u138_99, u138_101, u138_103, u138_106, u138_108, u138_111, u138_113, u138_115, u138_117, u138_120, u138_122, u138_125, u138_127, u138_129, u138_132, u138_135, u138_136, u138_139, u138_140, u138_141, u138_142, u138_143, u138_146, u138_148, u138_151, u138_153, u138_154, u138_157, u138_159, u138_161, u138_164, u138_165, u138_168, u138_170, h73, hle, if_false, hB8, hB9, hc, true_and, hrun, pu_some, pu_none, q, if_true]
      · simp only [u138_0, u138_1, u138_4, u138_5, u138_6, u138_9, u138_10, u138_13, u138_14, u138_15, u138_16, u138_17, u138_19, u138_20, u138_22, u138_23, u138_27, u138_28, u138_31, u138_34, u138_35, u138_38, u138_39, u138_41, u138_42, u138_43, u138_45, u138_48, u138_49, u138_52, u138_53, u138_54, u138_55, u138_58, u138_60, u138_63, u138_64, u138_67, u138_68, u138_69, u138_72, u138_75, u138_76, u138_77, u138_78, u138_81, u138_83, u138_84, u138_87, u138_89, u138_91, u138_94, u138_95, u138_98, u138_99, u138_101, u138_103, u138_106, u138_108, u138_111, u138_113, u138_115, u138_117, u138_120, u138_122, u138_125, u138_127, u138_129, u138_132, u138_135, u138_136, u138_139, u138_140, u138_141, u138_142, u138_143, u138_146, u138_148, u138_151, u138_153, u138_154, u138_157, u138_159, u138_161, u138_164, u138_165, u138_168, u138_170, h73, hle, if_false, hB8, hB9, hc, true_and, hrun, pu_some, pu_none, q]
    obtain ⟨y, hy, head⟩ := head
    unfold loF
    rw [← e88]
    unfold prF
    rw [← hy]
    generalize mRunM (mN N B) (fN N B) 29 (up x.1 79 k (nI i)) = X at *
    by_cases p : X 88 k = -1
    · refine ⟨(X, some (.int y), some (.int (nI 0))), ⟨⟨nI i, hX2⟩, hk2, fun j hj => ?_⟩, fun r => (head r).trans ?_⟩
      · rw [if_pos p] at hj
        have := hsj j hj
        omega
      · rw [if_pos p]
        simp only [u138_0, u138_1, u138_4, u138_5, u138_6, u138_9, u138_10, u138_13, u138_14, u138_15, u138_16, u138_17, u138_19, u138_20, u138_22, u138_23, u138_27, u138_28, u138_31, u138_34, u138_35, u138_38, u138_39, u138_41, u138_42, u138_43, u138_45, u138_48, u138_49, u138_52, u138_53, u138_54, u138_55, u138_58, u138_60, u138_63, u138_64, u138_67, u138_68, u138_69, u138_71, u138_72, u138_75, u138_76, u138_77, u138_78, u138_81, u138_83, u138_84, u138_87, u138_89, u138_91, u138_94, u138_95, u138_98, u138_99, u138_101, u138_103, u138_106, u138_108, u138_111, u138_113, u138_115, u138_117, u138_120, u138_122, u138_125, u138_127, u138_129, u138_132, u138_135, u138_136, u138_139, u138_140, u138_141, u138_142, u138_143, u138_146, u138_148, u138_151, u138_153, u138_154, u138_157, u138_159, u138_161, u138_164, u138_165, u138_168, u138_170, hB8, hc, true_and, p, if_true, nI_add]
    · rw [if_neg p]
      cases s1 with
      | none =>
        refine ⟨(X, some (.int y), some (.int (nI 1))), ⟨⟨nI i, hX2⟩, hk2, fun j hj => by have : i = j := Option.some.inj hj; omega⟩, fun r => (head r).trans ?_⟩
        simp only [u138_0, u138_1, u138_4, u138_5, u138_6, u138_9, u138_10, u138_13, u138_14, u138_15, u138_16, u138_17, u138_19, u138_20, u138_22, u138_23, u138_27, u138_28, u138_31, u138_34, u138_35, u138_38, u138_39, u138_41, u138_42, u138_43, u138_45, u138_48, u138_49, u138_52, u138_53, u138_54, u138_55, u138_58, u138_60, u138_63, u138_64, u138_67, u138_68, u138_69, u138_71, u138_72, u138_75, u138_76, u138_77, u138_78, u138_81, u138_83, u138_84, u138_87, u138_89, u138_91, u138_94, u138_95, u138_98, u138_99, u138_101, u138_103, u138_106, u138_108, u138_111, u138_113, u138_115, u138_117, u138_120, u138_122, u138_125, u138_127, u138_129, u138_132, u138_135, u138_136, u138_139, u138_140, u138_141, u138_142, u138_143, u138_146, u138_148, u138_151, u138_153, u138_154, u138_157, u138_159, u138_161, u138_164, u138_165, u138_168, u138_170, hB8, hc, true_and, p, optI_none, if_true, if_false, z1, nI_add, optI_some]
      | some j =>
        have hj := hsj j rfl
        have hn1 := nI_ne1 (k := j) (by omega)
        by_cases q : s2 < y
        · refine ⟨(X, some (.int y), some (.int (nI 1))), ⟨⟨nI i, hX2⟩, hk2, fun j hj => ?_⟩, fun r => (head r).trans ?_⟩
          · dsimp only at hj
            rw [if_pos q] at hj
            have : i = j := Option.some.inj hj
            omega
          · dsimp only
            rw [if_pos q]
            simp only [u138_0, u138_1, u138_4, u138_5, u138_6, u138_9, u138_10, u138_13, u138_14, u138_15, u138_16, u138_17, u138_19, u138_20, u138_22, u138_23, u138_27, u138_28, u138_31, u138_34, u138_35, u138_38, u138_39, u138_41, u138_42, u138_43, u138_45, u138_48, u138_49, u138_52, u138_53, u138_54, u138_55, u138_58, u138_60, u138_63, u138_64, u138_67, u138_68, u138_69, u138_71, u138_72, u138_75, u138_76, u138_77, u138_78, u138_81, u138_83, u138_84, u138_87, u138_89, u138_91, u138_94, u138_95, u138_98, u138_99, u138_101, u138_103, u138_106, u138_108, u138_111, u138_113, u138_115, u138_117, u138_120, u138_122, u138_125, u138_127, u138_129, u138_132, u138_135, u138_136, u138_139, u138_140, u138_141, u138_142, u138_143, u138_146, u138_148, u138_151, u138_153, u138_154, u138_157, u138_159, u138_161, u138_164, u138_165, u138_168, u138_170, hB8, hc, true_and, p, optI_some, hn1, le_n y s2, q, not_true, if_true, if_false, z1, nI_add]
        · refine ⟨(X, some (.int y), some (.int (nI 0))), ⟨⟨nI i, hX2⟩, hk2, fun j hj => ?_⟩, fun r => (head r).trans ?_⟩
          · dsimp only at hj
            rw [if_neg q] at hj
            have := hsj j hj
            omega
          · dsimp only
            rw [if_neg q]
            simp only [u138_0, u138_1, u138_4, u138_5, u138_6, u138_9, u138_10, u138_13, u138_14, u138_15, u138_16, u138_17, u138_19, u138_20, u138_22, u138_23, u138_27, u138_28, u138_31, u138_34, u138_35, u138_38, u138_39, u138_41, u138_42, u138_43, u138_45, u138_48, u138_49, u138_52, u138_53, u138_54, u138_55, u138_58, u138_60, u138_63, u138_64, u138_67, u138_68, u138_69, u138_71, u138_72, u138_75, u138_76, u138_77, u138_78, u138_81, u138_83, u138_84, u138_87, u138_89, u138_91, u138_94, u138_95, u138_98, u138_99, u138_101, u138_103, u138_106, u138_108, u138_111, u138_113, u138_115, u138_117, u138_120, u138_122, u138_125, u138_127, u138_129, u138_132, u138_135, u138_136, u138_139, u138_140, u138_141, u138_142, u138_143, u138_146, u138_148, u138_151, u138_153, u138_154, u138_157, u138_159, u138_161, u138_164, u138_165, u138_168, u138_170, hB8, hc, true_and, p, optI_some, hn1, le_n y s2, q, not_false_iff, if_true, if_false, nI_add]) (none, nI 0) (up M 73 16 (nI 0), none, none) ⟨⟨w0 N B 4 k, by rw [up_same]; exact h0⟩, Km_t hK (Km_up (Or.inl ⟨rfl, by decide⟩)), fun j hj => by cases hj⟩
  have hF : MWn N B (w0 N B) (up X.1 79 k (w0 N B 4 k)) := by
    have := MW_up (i := 4) (x := k) (v := w0 N B 4 k) hX (by decide)
    rw [up_up, up_same] at this
    exact this
  have h73 : X.1 73 7 = nI (iN N B) := hX.1.2.1
  refine ⟨up X.1 79 k (w0 N B 4 k), Km_t hKX.1 (Km_up (by omega)), MQ_0 hF, fun f Rt => ?_⟩
  have e := e (f, Rt)
  have hP : it (iN N B) (loF N B k) (none, nI 0) = loP N B k := rfl
  rw [hP] at e hKX
  refine Eq.trans ?_ (e.trans ?_)
  · simp only [u138_0, u138_1, u138_4, u138_5, u138_6, u138_9, u138_10, u138_13, u138_14, u138_15, u138_16, u138_17, u138_19, u138_20, u138_22, u138_23, u138_27, u138_28, u138_31, u138_34, u138_35, u138_38, u138_39, u138_41, u138_42, u138_43, u138_45, u138_48, u138_49, u138_52, u138_53, u138_54, u138_55, u138_58, u138_60, u138_63, u138_64, u138_67, u138_68, u138_69, u138_71, u138_72, u138_75, u138_76, u138_77, u138_78, u138_81, u138_83, u138_84, u138_87, u138_89, u138_91, u138_94, u138_95, u138_98, u138_99, u138_101, u138_103, u138_106, u138_108, u138_111, u138_113, u138_115, u138_117, u138_120, u138_122, u138_125, u138_127, u138_129, u138_132, u138_135, u138_136, u138_139, u138_140, u138_141, u138_142, u138_143, u138_146, u138_148, u138_151, u138_153, u138_154, u138_157, u138_159, u138_161, u138_164, u138_165, u138_168, u138_170, Rd_e hR, pu_some, pu_none, hB9, hc, true_and, up_row (show (79 : Nat) ≠ 73 by decide), e5, optI_none]
  · refine u138_25.trans ?_
    have hj := hKX.2
    generalize loP N B k = s at *
    obtain ⟨s1, s2⟩ := s
    unfold loA
    by_cases v0 : v = nI 0
    · subst v0
      simp (disch := omega) only [u138_27, u138_28, u138_31, u138_135, u138_136, u138_139, u138_140, u138_141, u138_142, u138_143, u138_146, u138_148, u138_170, h73, nI_le8, Nat.le_refl, if_true, hB9, hc, true_and]
    · cases s1 with
      | none => simp (disch := omega) only [u138_0, u138_1, u138_4, u138_5, u138_6, u138_9, u138_10, u138_13, u138_14, u138_15, u138_16, u138_17, u138_19, u138_20, u138_22, u138_23, u138_27, u138_28, u138_31, u138_34, u138_35, u138_38, u138_39, u138_41, u138_42, u138_43, u138_45, u138_48, u138_49, u138_52, u138_53, u138_54, u138_55, u138_58, u138_60, u138_63, u138_64, u138_67, u138_68, u138_69, u138_71, u138_72, u138_75, u138_76, u138_77, u138_78, u138_81, u138_83, u138_84, u138_87, u138_89, u138_91, u138_94, u138_95, u138_98, u138_99, u138_101, u138_103, u138_106, u138_108, u138_111, u138_113, u138_115, u138_117, u138_120, u138_122, u138_125, u138_127, u138_129, u138_132, u138_135, u138_136, u138_139, u138_140, u138_141, u138_142, u138_143, u138_146, u138_148, u138_151, u138_153, u138_154, u138_157, u138_159, u138_161, u138_164, u138_165, u138_168, u138_170, h73, nI_le8, Nat.le_refl, if_true, if_false, v0, hB9, hc, true_and, optI_none]
      | some j =>
        have := hj j rfl
        have hn1 := nI_ne1 (k := j) (by omega)
        by_cases q : s2 = nI 99
        · simp (disch := omega) only [u138_0, u138_1, u138_4, u138_5, u138_6, u138_9, u138_10, u138_13, u138_14, u138_15, u138_16, u138_17, u138_19, u138_20, u138_22, u138_23, u138_27, u138_28, u138_31, u138_34, u138_35, u138_38, u138_39, u138_41, u138_42, u138_43, u138_45, u138_48, u138_49, u138_52, u138_53, u138_54, u138_55, u138_58, u138_60, u138_63, u138_64, u138_67, u138_68, u138_69, u138_71, u138_72, u138_75, u138_76, u138_77, u138_78, u138_81, u138_83, u138_84, u138_87, u138_89, u138_91, u138_94, u138_95, u138_98, u138_99, u138_101, u138_103, u138_106, u138_108, u138_111, u138_113, u138_115, u138_117, u138_120, u138_122, u138_125, u138_127, u138_129, u138_132, u138_135, u138_136, u138_139, u138_140, u138_141, u138_142, u138_143, u138_146, u138_148, u138_151, u138_153, u138_154, u138_157, u138_159, u138_161, u138_164, u138_165, u138_168, u138_170, h73, nI_le8, Nat.le_refl, if_true, if_false, v0, hB9, hc, true_and, optI_some, hn1, q]
        · simp (disch := omega) only [u138_0, u138_1, u138_4, u138_5, u138_6, u138_9, u138_10, u138_13, u138_14, u138_15, u138_16, u138_17, u138_19, u138_20, u138_22, u138_23, u138_27, u138_28, u138_31, u138_34, u138_35, u138_38, u138_39, u138_41, u138_42, u138_43, u138_45, u138_48, u138_49, u138_52, u138_53, u138_54, u138_55, u138_58, u138_60, u138_63, u138_64, u138_67, u138_68, u138_69, u138_71, u138_72, u138_75, u138_76, u138_77, u138_78, u138_81, u138_83, u138_84, u138_87, u138_89, u138_91, u138_94, u138_95, u138_98, u138_99, u138_101, u138_103, u138_106, u138_108, u138_111, u138_113, u138_115, u138_117, u138_120, u138_122, u138_125, u138_127, u138_129, u138_132, u138_135, u138_136, u138_139, u138_140, u138_141, u138_142, u138_143, u138_146, u138_148, u138_151, u138_153, u138_154, u138_157, u138_159, u138_161, u138_164, u138_165, u138_168, u138_170, h73, nI_le8, Nat.le_refl, if_true, if_false, v0, hB9, hc, true_and, optI_some, hn1, q]
/-- how many are looked at -/
def lkP (N : Nat → Nat) (B : Nat → Nat → Nat) (x : Nat) : Nat → Nat → Option Nat
  | 0, _ => none
  | r + 1, k => if sndP (mN N B) (up (w0 N B) 10 x (nI k)) (RR N B (up (w0 N B) 10 x (nI k)) 29 92 x) = onesM (RR N B (up (w0 N B) 10 x (nI k)) 29 92 x) then some k else lkP N B x r (k + 1)
set_option maxHeartbeats 1000000 in
theorem q_lookOf (h : Bs N B m) {k : Nat} (hk : k < fN N B) : ∃ M, Km m M ∧ MQt N B M ∧ ∀ (f : Nat) (Rt : Option Value → AMem → Prop), T S (f + 8) 140 0 [some (.ref 73), some (.int (nI k)), none, none, none] [] m Rt = Rt (some (.int (optI (lkP N B k 10 0)))) M := by
  obtain ⟨M, x, hR, hK, hM⟩ := rd_ok (S := S) h
  obtain ⟨h8, h8i, h6⟩ := Bs_m8 h
  have hw := Bs_ok0 h
  have h0 : MWn N B (w0 N B) (up M 73 16 (nI 0)) := MQ_set ⟨x, hM⟩
  have hB6 : inB (nI k) 6 = true := inB8 (by omega) (by decide)
  have hB7 : inB (nI k) 7 = true := inB8 (by omega) (by decide)
  have hc : (nI k).toNatClampNeg = k := nI_cl8 (by omega)
  have e5 : M 85 k = w0 N B 10 k := hM.2.2.2.2 10 k (by omega) (by omega) hk
  have fin : ∀ X, (∃ v5, MWn N B (up (w0 N B) 10 k v5) X) → Km m X → Km m (up X 85 k (w0 N B 10 k)) ∧ MQt N B (up X 85 k (w0 N B 10 k)) := fun X ⟨v5, hX⟩ hk => by
    have := MW_up (i := 10) (x := k) (v := w0 N B 10 k) hX (by decide)
    rw [up_up, up_same] at this
    exact ⟨Km_t hk (Km_up (by omega)), MQ_0 this⟩
  have key : ∀ r i X, i + r = 10 → (∃ v5, MWn N B (up (w0 N B) 10 k v5) X) → Km m X → ∃ M2, Km m M2 ∧ MQt N B M2 ∧ ∀ (f : Nat) (Rt : Option Value → AMem → Prop), T S (f + 8) 140 21 [some (.ref 73), some (.int (nI k)), some (.int (w0 N B 10 k)), some (.int (-1)), some (.int (nI i))] [] X Rt = Rt (some (.int (optI (lkP N B k r i)))) M2 := by
    intro r
    induction r with
    | zero =>
      intro i X hi hX hKX
      have : i = 10 := by omega
      subst this
      refine ⟨_, (fin X hX hKX).1, (fin X hX hKX).2, fun f Rt => u140_21.trans ?_⟩
      simp (disch := omega) only [u140_0, u140_1, u140_4, u140_5, u140_6, u140_9, u140_10, u140_13, u140_14, u140_15, u140_16, u140_17, u140_18, u140_19, u140_23, u140_25, u140_28, u140_29, u140_30, u140_33, u140_34, u140_37, u140_38, u140_40, u140_41, u140_42, u140_44, u140_47, u140_48, u140_49, u140_52, u140_53, u140_56, u140_57, u140_58, u140_61, u140_64, u140_66, u140_69, u140_70, u140_71, u140_74, u140_77, u140_78, u140_81, u140_82, u140_83, u140_84, u140_85, nI_le8, Nat.le_refl, if_true, hB7, hc, true_and]
      rfl
    | succ r ih =>
      intro i X hi ⟨v5, hX⟩ hKX
      have hM2 : MWn N B (up (w0 N B) 10 k (nI i)) (up X 85 k (nI i)) := by
        have := MW_up (i := 10) (x := k) (v := nI i) hX (by decide)
        rw [up_up] at this
        exact this
      have hw2 : Wkn N B (up (w0 N B) 10 k (nI i)) := Wok_up hw (by decide) ⟨by omega, by omega, by omega⟩
      have hE := mr_eq hw2 hM2 (z := 29) (by decide)
      have e92 := (hE.2.2.1 k (by omega)).2.2
      have hrun := fun f Rt => s_mr (S := S) (f := f) (Rt := Rt) hw2 hM2 (z := 29) (by decide)
      have hX2 : MWn N B (up (w0 N B) 10 k (nI i)) (mRunM (mN N B) (fN N B) 29 (up X 85 k (nI i))) := MW_run hM2
      have hk2 : Km m (mRunM (mN N B) (fN N B) 29 (up X 85 k (nI i))) := Km_t hKX (Km_t (Km_up (by omega)) Km_run)
      have es := fun f Rt => s_msound (S := S) (f := f) (Rt := Rt) hw2 hX2 (show k < 6 by omega)
      have h10 : ¬ 10 ≤ i := by omega
      have hn1 := nI_ne1 (k := i) (by omega)
      unfold lkP
      rw [← e92]
      generalize mRunM (mN N B) (fN N B) 29 (up X 85 k (nI i)) = Y at *
      by_cases q : sndP (mN N B) (up (w0 N B) 10 k (nI i)) (Y 92 k) = onesM (Y 92 k)
      · have f2 := fin Y ⟨_, hX2⟩ hk2
        refine ⟨_, f2.1, f2.2, fun f Rt => u140_21.trans ?_⟩
        rw [if_pos q]
        have back : ∀ R2 : Option Value → AMem → Prop, T S (f + 8) 140 21 [some (.ref 73), some (.int (nI k)), some (.int (w0 N B 10 k)), some (.int (nI i)), some (.int (nI (i + 1)))] [] Y R2 = R2 (some (.int (nI i))) (up Y 85 k (w0 N B 10 k)) := fun R2 => by
          refine u140_21.trans ?_
          by_cases t : 10 ≤ i + 1
          · simp (disch := omega) only [u140_0, u140_1, u140_4, u140_5, u140_6, u140_9, u140_10, u140_13, u140_14, u140_15, u140_16, u140_17, u140_18, u140_19, u140_23, u140_25, u140_28, u140_29, u140_30, u140_33, u140_34, u140_37, u140_38, u140_40, u140_41, u140_42, u140_44, u140_47, u140_48, u140_49, u140_52, u140_53, u140_56, u140_57, u140_58, u140_61, u140_64, u140_66, u140_69, u140_70, u140_71, u140_74, u140_77, u140_78, u140_81, u140_82, u140_83, u140_84, u140_85, nI_le8, t, if_true, hB7, hc, true_and]
          · simp (disch := omega) only [u140_0, u140_1, u140_4, u140_5, u140_6, u140_9, u140_10, u140_13, u140_14, u140_15, u140_16, u140_17, u140_18, u140_19, u140_23, u140_25, u140_28, u140_29, u140_30, u140_33, u140_34, u140_37, u140_38, u140_40, u140_41, u140_42, u140_44, u140_47, u140_48, u140_49, u140_52, u140_53, u140_56, u140_57, u140_58, u140_61, u140_64, u140_66, u140_69, u140_70, u140_71, u140_74, u140_77, u140_78, u140_81, u140_82, u140_83, u140_84, u140_85, nI_le8, t, if_false, hn1, not_false_iff, if_true, hB7, hc, true_and]
        simp (disch := omega) only [u140_0, u140_1, u140_4, u140_5, u140_6, u140_9, u140_10, u140_13, u140_14, u140_15, u140_16, u140_17, u140_18, u140_19, u140_23, u140_25, u140_28, u140_29, u140_30, u140_33, u140_34, u140_37, u140_38, u140_40, u140_41, u140_42, u140_44, u140_47, u140_48, u140_49, u140_52, u140_53, u140_56, u140_57, u140_58, u140_61, u140_64, u140_66, u140_69, u140_70, u140_71, u140_74, u140_77, u140_78, u140_81, u140_82, u140_83, u140_84, u140_85, nI_le8, h10, if_false, hB6, hB7, hc, true_and, hrun, pu_some, pu_none, es, s_mOnes, q, if_true, nI_add, not_true, back]
        rfl
      · obtain ⟨M2, k2, q2, e2⟩ := ih (i + 1) Y (by omega) ⟨_, hX2⟩ hk2
        refine ⟨M2, k2, q2, fun f Rt => u140_21.trans ?_⟩
        rw [if_neg q]
        simp (disch := omega) only [u140_0, u140_1, u140_4, u140_5, u140_6, u140_9, u140_10, u140_13, u140_14, u140_15, u140_16, u140_17, u140_18, u140_19, u140_23, u140_25, u140_28, u140_29, u140_30, u140_33, u140_34, u140_37, u140_38, u140_40, u140_41, u140_42, u140_44, u140_47, u140_48, u140_49, u140_52, u140_53, u140_56, u140_57, u140_58, u140_61, u140_64, u140_66, u140_69, u140_70, u140_71, u140_74, u140_77, u140_78, u140_81, u140_82, u140_83, u140_84, u140_85, nI_le8, h10, if_false, hB6, hB7, hc, true_and, hrun, pu_some, pu_none, es, s_mOnes, q, nI_add, not_true, e2, if_true, if_false]
  obtain ⟨M2, k2, q2, e2⟩ := key 10 0 (up M 73 16 (nI 0)) rfl ⟨w0 N B 10 k, by rw [up_same]; exact h0⟩ (Km_t hK (Km_up (Or.inl ⟨rfl, by decide⟩)))
  refine ⟨M2, k2, q2, fun f Rt => ?_⟩
  simp only [u140_0, u140_1, u140_4, u140_5, u140_6, u140_9, u140_10, u140_13, u140_14, u140_15, u140_16, u140_17, u140_18, u140_19, u140_23, u140_25, u140_28, u140_29, u140_30, u140_33, u140_34, u140_37, u140_38, u140_40, u140_41, u140_42, u140_44, u140_47, u140_48, u140_49, u140_52, u140_53, u140_56, u140_57, u140_58, u140_61, u140_64, u140_66, u140_69, u140_70, u140_71, u140_74, u140_77, u140_78, u140_81, u140_82, u140_83, u140_84, u140_85, Rd_e hR, pu_some, pu_none, hB7, hc, true_and, up_row (show (85 : Nat) ≠ 73 by decide), e5, e2]
end MPL
