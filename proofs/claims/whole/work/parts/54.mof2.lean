section MOG
variable {S : AScr} {m M : AMem} {w : AMem} {N : Nat → Nat} {B : Nat → Nat → Nat}
def crP (N : Nat → Nat) (B : Nat → Nat → Nat) (x : Nat) (v : Int32) : Int32 := if v = nI 0 then RR N B (w0 N B) 29 90 x else if v = nI 1 then RR N B (w0 N B) 29 91 x else if v = nI 2 then RR N B (w0 N B) 29 92 x else if v = nI 3 then sndP (mN N B) (w0 N B) (RR N B (w0 N B) 29 92 x) else w0 N B 8 x - onesM (RR N B (w0 N B) 29 92 x)
theorem q_crewOf (h : Bs N B m) {k : Nat} {v : Int32} (hk : k < fN N B) : ∃ M, Km m M ∧ MQt N B M ∧ ∀ (f : Nat) (Rt : Option Value → AMem → Prop), T S (f + 8) 128 0 [some (.ref 73), some (.int (nI k)), some (.int v)] [] m Rt = Rt (some (.int (crP N B k v))) M := by
  obtain ⟨M, hK, hM, hE, e⟩ := told_ok (S := S) h (show 29 < 90 by omega)
  obtain ⟨h8, h8i, h6⟩ := Bs_m8 h
  have hB6 : inB (nI k) 6 = true := inB8 (by omega) (by decide)
  have hB7 : inB (nI k) 7 = true := inB8 (by omega) (by decide)
  have hc : (nI k).toNatClampNeg = k := nI_cl8 (by omega)
  obtain ⟨e1, e2, e3⟩ := hE.2.2.1 k (by omega)
  have e8 : M 83 k = w0 N B 8 k := hM.2.2.2.2 8 k (by omega) (by omega) hk
  refine ⟨M, hK, MQ_0 hM, fun f Rt => ?_⟩
  have es := fun Rt => s_msound (S := S) (f := f + 5) (Rt := Rt) (Bs_ok0 h) hM (show k < 6 by omega)
  unfold crP
  rw [← e1, ← e2, ← e3]
  by_cases v0 : v = nI 0
  · simp only [u128_0, u128_1, u128_3, u128_6, u128_7, u128_10, u128_11, u128_14, u128_15, u128_16, u128_19, u128_20, u128_21, u128_24, u128_25, u128_28, u128_29, u128_30, u128_33, u128_34, u128_35, u128_38, u128_39, u128_42, u128_43, u128_44, u128_47, u128_48, u128_49, u128_52, u128_53, u128_54, u128_57, u128_60, u128_61, u128_64, u128_65, u128_66, u128_67, u128_70, u128_71, u128_72, u128_75, u128_76, e, pu_some, pu_none, v0, if_true, hB6, hc, true_and]
  by_cases v1 : v = nI 1
  · simp only [u128_0, u128_1, u128_3, u128_6, u128_7, u128_10, u128_11, u128_14, u128_15, u128_16, u128_19, u128_20, u128_21, u128_24, u128_25, u128_28, u128_29, u128_30, u128_33, u128_34, u128_35, u128_38, u128_39, u128_42, u128_43, u128_44, u128_47, u128_48, u128_49, u128_52, u128_53, u128_54, u128_57, u128_60, u128_61, u128_64, u128_65, u128_66, u128_67, u128_70, u128_71, u128_72, u128_75, u128_76, e, pu_some, pu_none, v0, v1, if_true, if_false, hB6, hc, true_and, show ¬ nI 1 = nI 0 by decide]
  by_cases v2 : v = nI 2
  · simp only [u128_0, u128_1, u128_3, u128_6, u128_7, u128_10, u128_11, u128_14, u128_15, u128_16, u128_19, u128_20, u128_21, u128_24, u128_25, u128_28, u128_29, u128_30, u128_33, u128_34, u128_35, u128_38, u128_39, u128_42, u128_43, u128_44, u128_47, u128_48, u128_49, u128_52, u128_53, u128_54, u128_57, u128_60, u128_61, u128_64, u128_65, u128_66, u128_67, u128_70, u128_71, u128_72, u128_75, u128_76, e, pu_some, pu_none, v0, v1, v2, if_true, if_false, hB6, hc, true_and, show ¬ nI 2 = nI 0 by decide, show ¬ nI 2 = nI 1 by decide]
  by_cases v3 : v = nI 3
  · simp only [u128_0, u128_1, u128_3, u128_6, u128_7, u128_10, u128_11, u128_14, u128_15, u128_16, u128_19, u128_20, u128_21, u128_24, u128_25, u128_28, u128_29, u128_30, u128_33, u128_34, u128_35, u128_38, u128_39, u128_42, u128_43, u128_44, u128_47, u128_48, u128_49, u128_52, u128_53, u128_54, u128_57, u128_60, u128_61, u128_64, u128_65, u128_66, u128_67, u128_70, u128_71, u128_72, u128_75, u128_76, e, pu_some, pu_none, v0, v1, v2, v3, if_true, if_false, es, show ¬ nI 3 = nI 0 by decide, show ¬ nI 3 = nI 1 by decide, show ¬ nI 3 = nI 2 by decide]
  simp only [u128_0, u128_1, u128_3, u128_6, u128_7, u128_10, u128_11, u128_14, u128_15, u128_16, u128_19, u128_20, u128_21, u128_24, u128_25, u128_28, u128_29, u128_30, u128_33, u128_34, u128_35, u128_38, u128_39, u128_42, u128_43, u128_44, u128_47, u128_48, u128_49, u128_52, u128_53, u128_54, u128_57, u128_60, u128_61, u128_64, u128_65, u128_66, u128_67, u128_70, u128_71, u128_72, u128_75, u128_76, e, pu_some, pu_none, v0, v1, v2, v3, if_false, hB6, hB7, hc, true_and, s_mOnes, e8]
theorem q_lastOf (h : Bs N B m) : ∃ M, Km m M ∧ MQt N B M ∧ ∀ (f : Nat) (Rt : Option Value → AMem → Prop), T S (f + 8) 134 0 [some (.ref 73)] [] m Rt = Rt (some (.int (RR N B (w0 N B) 29 73 24))) M := by
  obtain ⟨M, hK, hM, hE, e⟩ := told_ok (S := S) h (show 29 < 90 by omega)
  refine ⟨M, hK, MQ_0 hM, fun f Rt => ?_⟩
  simp only [u134_0, u134_1, u134_3, u134_6, u134_7, u134_10, e, pu_some, pu_none, hE.2.2.2]
/-- the house that takes most -/
def ricF (R : AMem) (k : Nat) (b : Option Nat) : Option Nat := match b with
  | none => some k
  | some j => if R 89 j < R 89 k then some k else some j
def ricP (inns : Nat) (R : AMem) : Option Nat := it inns (ricF R) none
theorem ric_lt {R : AMem} : ∀ n j, it n (ricF R) none = some j → j < n := by
  intro n
  induction n with
  | zero => intro j h; cases h
  | succ n ih =>
    intro j h
    rw [it_s] at h
    unfold ricF at h
    cases q : it n (ricF R) none with
    | none =>
      unfold ricF at q
      rw [q] at h
      have : n = j := Option.some.inj h
      omega
    | some i =>
      have hi := ih i q
      unfold ricF at q
      rw [q] at h
      dsimp only at h
      split at h
      · have : n = j := Option.some.inj h
        omega
      · have : i = j := Option.some.inj h
        omega
theorem q_richestOf (h : Bs N B m) {z : Nat} (hz : z < 30) : ∃ M, Km m M ∧ MQt N B M ∧ ∀ (f : Nat) (Rt : Option Value → AMem → Prop), T S (f + 8) 132 0 [some (.ref 73), some (.int (nI z)), none, none] [] m Rt = Rt (some (.int (optI (ricP (iN N B) (RR N B (w0 N B) z))))) M := by
  obtain ⟨M, hK, hM, hE, e0⟩ := told_ok (S := S) h (show z < 90 by omega)
  obtain ⟨h8, h8i, h6⟩ := Bs_m8 h
  refine ⟨M, hK, MQ_0 hM, fun f Rt => ?_⟩
  have e := it_run (fun i (b : Option Nat) => T S (f + 8) 132 9 [some (.ref 73), some (.int (nI z)), some (.int (optI b)), some (.int (nI i))] [] M Rt) (ricF (RR N B (w0 N B) z)) (fun n b => ∀ j, b = some j → j < n) (iN N B) (fun k hk b hb j hj => by
    unfold ricF at hj
    cases b with
    | none =>
      have : k = j := Option.some.inj hj
      omega
    | some i =>
      have := hb i rfl
      dsimp only at hj
      split at hj
      · have : k = j := Option.some.inj hj
        omega
      · have : i = j := Option.some.inj hj
        omega) (fun i hi b hb => by
    have hle : (nI (iN N B) ≤ nI i) = False := by rw [nI_le8 (by omega) (by omega)]; exact eq_false (by omega)
    have hBi : inB (nI i) 8 = true := inB8 (by omega) (by decide)
    have hci : (nI i).toNatClampNeg = i := nI_cl8 (by omega)
    refine u132_9.trans ?_
    unfold ricF
    cases b with
    | none => simp only [u132_0, u132_1, u132_2, u132_5, u132_6, u132_7, u132_8, u132_10, u132_11, u132_14, u132_17, u132_18, u132_19, u132_22, u132_23, u132_26, u132_27, u132_28, u132_29, u132_32, u132_33, u132_34, u132_37, u132_38, u132_41, u132_42, u132_43, u132_46, u132_49, u132_50, hM.1.2.1, hle, if_false, optI_none, if_true, nI_add, optI_some]
    | some j =>
      have hj := hb j rfl
      have hBj : inB (nI j) 8 = true := inB8 (by omega) (by decide)
      have hcj : (nI j).toNatClampNeg = j := nI_cl8 (by omega)
      have hn1 := nI_ne1 (k := j) (by omega)
      dsimp only
      rw [← hE.2.1 j (by omega), ← hE.2.1 i (by omega)]
      by_cases q : M 89 j < M 89 i
      · simp only [u132_0, u132_1, u132_2, u132_5, u132_6, u132_7, u132_8, u132_10, u132_11, u132_14, u132_17, u132_18, u132_19, u132_22, u132_23, u132_26, u132_27, u132_28, u132_29, u132_32, u132_33, u132_34, u132_37, u132_38, u132_41, u132_42, u132_43, u132_46, u132_49, u132_50, hM.1.2.1, hle, if_false, optI_some, hn1, hBj, hcj, hBi, hci, true_and, le_n (M 89 i) (M 89 j), q, not_true, if_true, nI_add]
      · simp only [u132_0, u132_1, u132_2, u132_5, u132_6, u132_7, u132_8, u132_10, u132_11, u132_14, u132_17, u132_18, u132_19, u132_22, u132_23, u132_26, u132_27, u132_28, u132_29, u132_32, u132_33, u132_34, u132_37, u132_38, u132_41, u132_42, u132_43, u132_46, u132_49, u132_50, hM.1.2.1, hle, if_false, optI_some, hn1, hBj, hcj, hBi, hci, true_and, le_n (M 89 i) (M 89 j), q, not_false_iff, if_true, nI_add]) none (fun j hj => by cases hj)
  refine Eq.trans ?_ (e.trans ?_)
  · simp only [u132_0, u132_1, u132_2, u132_5, u132_6, u132_7, u132_8, u132_10, u132_11, u132_14, u132_17, u132_18, u132_19, u132_22, u132_23, u132_26, u132_27, u132_28, u132_29, u132_32, u132_33, u132_34, u132_37, u132_38, u132_41, u132_42, u132_43, u132_46, u132_49, u132_50, e0, pu_some, pu_none, optI_none]
  · refine u132_9.trans ?_
    simp (disch := omega) only [u132_0, u132_1, u132_2, u132_5, u132_6, u132_7, u132_8, u132_10, u132_11, u132_14, u132_17, u132_18, u132_19, u132_22, u132_23, u132_26, u132_27, u132_28, u132_29, u132_32, u132_33, u132_34, u132_37, u132_38, u132_41, u132_42, u132_43, u132_46, u132_49, u132_50, hM.1.2.1, nI_le8, Nat.le_refl, if_true]
    rfl
/-- how many sail in all -/
def saiP (men : Nat) (R : AMem) : Int32 := it men (fun k (c : Int32) => if R 93 k = -1 then c else c + nI 1) (nI 0)
theorem s_msail (hE : EqR (mN N B) M (RR N B w 29)) (hm : M 73 2 = nI (mN N B)) (h8 : mN N B ≤ 8) {f : Nat} {Rt : Option Value → AMem → Prop} : T S (f + 1) 163 0 [some (.ref 73), none, none] [] M Rt = Rt (some (.int (saiP (mN N B) (RR N B w 29)))) M := by
  have e := it_run (fun i (c : Int32) => T S (f + 1) 163 4 [some (.ref 73), some (.int c), some (.int (nI i))] [] M Rt) (fun k (c : Int32) => if RR N B w 29 93 k = -1 then c else c + nI 1) (fun _ _ => True) (mN N B) (fun _ _ _ _ => trivial) (fun i hi c _ => by
    have hle : (nI (mN N B) ≤ nI i) = False := by rw [nI_le8 (by omega) (by omega)]; exact eq_false (by omega)
    have hBi : inB (nI i) 8 = true := inB8 (by omega) (by decide)
    have hci : (nI i).toNatClampNeg = i := nI_cl8 (by omega)
    refine u163_4.trans ?_
    rw [← (hE.1 i hi).2.2.2]
    by_cases q : M 93 i = -1
    · simp only [u163_0, u163_1, u163_2, u163_3, u163_5, u163_6, u163_9, u163_12, u163_13, u163_14, u163_17, u163_18, u163_19, u163_20, u163_23, u163_24, u163_27, u163_28, u163_29, u163_30, u163_33, u163_36, u163_37, hm, hle, if_false, hBi, hci, true_and, q, if_true, nI_add, show (nI 0 : Int32) = 0 from rfl, Int32.add_zero]
    · simp only [u163_0, u163_1, u163_2, u163_3, u163_5, u163_6, u163_9, u163_12, u163_13, u163_14, u163_17, u163_18, u163_19, u163_20, u163_23, u163_24, u163_27, u163_28, u163_29, u163_30, u163_33, u163_36, u163_37, hm, hle, if_false, hBi, hci, true_and, q, nI_add]) (nI 0) trivial
  refine Eq.trans ?_ (e.trans ?_)
  · simp only [u163_0, u163_1, u163_2, u163_3, u163_5, u163_6, u163_9, u163_12, u163_13, u163_14, u163_17, u163_18, u163_19, u163_20, u163_23, u163_24, u163_27, u163_28, u163_29, u163_30, u163_33, u163_36, u163_37]
  · refine u163_4.trans ?_
    simp (disch := omega) only [u163_0, u163_1, u163_2, u163_3, u163_5, u163_6, u163_9, u163_12, u163_13, u163_14, u163_17, u163_18, u163_19, u163_20, u163_23, u163_24, u163_27, u163_28, u163_29, u163_30, u163_33, u163_36, u163_37, hm, nI_le8, Nat.le_refl, if_true]
    rfl
def sumP (N : Nat → Nat) (B : Nat → Nat → Nat) (v : Nat) : Int32 := if v = 0 then nI (mN N B) else if v = 1 then nI (iN N B) else if v = 2 then nI (fN N B) else saiP (mN N B) (RR N B (w0 N B) 29)
theorem q_sumOf (h : Bs N B m) {v : Nat} (hv : v = 0 ∨ v = 1 ∨ v = 2 ∨ v = 6) : ∃ M, Km m M ∧ MQt N B M ∧ ∀ (f : Nat) (Rt : Option Value → AMem → Prop), T S (f + 8) 173 0 [some (.ref 73), some (.int (nI v))] [] m Rt = Rt (some (.int (sumP N B v))) M := by
  obtain ⟨M, hK, hM, hE, e⟩ := told_ok (S := S) h (show 29 < 90 by omega)
  obtain ⟨h8, h8i, h6⟩ := Bs_m8 h
  refine ⟨M, hK, MQ_0 hM, fun f Rt => ?_⟩
  have es := fun Rt => s_msail (S := S) (f := f + 6) (Rt := Rt) hE hM.1.1 h8
  rcases hv with rfl | rfl | rfl | rfl
  · simp only [u173_0, u173_1, u173_3, u173_6, u173_7, u173_10, u173_11, u173_14, u173_17, u173_18, u173_19, u173_22, u173_23, u173_26, u173_29, u173_30, u173_31, u173_34, u173_35, u173_38, u173_41, u173_42, u173_45, e, pu_some, pu_none, if_true, hM.1.1]
    rfl
  · simp only [u173_0, u173_1, u173_3, u173_6, u173_7, u173_10, u173_11, u173_14, u173_17, u173_18, u173_19, u173_22, u173_23, u173_26, u173_29, u173_30, u173_31, u173_34, u173_35, u173_38, u173_41, u173_42, u173_45, e, pu_some, pu_none, if_true, if_false, hM.1.2.1, show ¬ nI 1 = nI 0 by decide]
    rfl
  · simp only [u173_0, u173_1, u173_3, u173_6, u173_7, u173_10, u173_11, u173_14, u173_17, u173_18, u173_19, u173_22, u173_23, u173_26, u173_29, u173_30, u173_31, u173_34, u173_35, u173_38, u173_41, u173_42, u173_45, e, pu_some, pu_none, if_true, if_false, hM.1.2.2, show ¬ nI 2 = nI 0 by decide, show ¬ nI 2 = nI 1 by decide]
    rfl
  · simp only [u173_0, u173_1, u173_3, u173_6, u173_7, u173_10, u173_11, u173_14, u173_17, u173_18, u173_19, u173_22, u173_23, u173_26, u173_29, u173_30, u173_31, u173_34, u173_35, u173_38, u173_41, u173_42, u173_45, e, pu_some, pu_none, if_false, es, show ¬ nI 6 = nI 0 by decide, show ¬ nI 6 = nI 1 by decide, show ¬ nI 6 = nI 2 by decide]
    rfl
end MOG
