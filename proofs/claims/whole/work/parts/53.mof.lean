section MOF
variable {S : AScr} {m M : AMem} {men inns fleet : Nat} {w : AMem} {N : Nat → Nat} {B : Nat → Nat → Nat}
/-- the month of a town that has the counts of the told one -/
def RR (N : Nat → Nat) (B : Nat → Nat → Nat) (w : AMem) (z : Nat) : AMem := rs (mN N B) (iN N B) (fN N B) w z
def MWn (N : Nat → Nat) (B : Nat → Nat → Nat) (w M : AMem) : Prop := MW (mN N B) (iN N B) (fN N B) w M
def Wkn (N : Nat → Nat) (B : Nat → Nat → Nat) (w : AMem) : Prop := Wok (mN N B) (iN N B) (fN N B) w
/-- the tables stand as they were read -/
def MQt (N : Nat → Nat) (B : Nat → Nat → Nat) (M : AMem) : Prop := ∃ x, MWn N B (wA N B x) M
theorem mr_eq (hw : Wkn N B w) (h : MWn N B w M) {z : Nat} (hz : z < 90) : EqR (mN N B) (mRunM (mN N B) (fN N B) z M) (RR N B w z) := mrun_rs hw h hz
theorem MQ_set {x : Int32} (h : MQt N B M) : MWn N B (wA N B x) (up M 73 16 x) := by
  obtain ⟨y, hy⟩ := h
  have := MW_abs (v := x) hy
  rw [wA_up] at this
  exact this
theorem told_ok (h : Bs N B m) {z : Nat} (hz : z < 90) : ∃ M, Km m M ∧ MWn N B (w0 N B) M ∧ EqR (mN N B) M (RR N B (w0 N B) z) ∧ ∀ (f : Nat) (Rt : Option Value → AMem → Prop), T S (f + 7) 114 0 [some (.ref 73), some (.int (nI z))] [] m Rt = Rt none M := by
  obtain ⟨M, x, hR, hK, hM⟩ := rd_ok (S := S) h
  have h0 : MWn N B (w0 N B) (up M 73 16 (nI 0)) := MQ_set ⟨x, hM⟩
  have hw := Bs_ok0 h
  refine ⟨mRunM (mN N B) (fN N B) z (up M 73 16 (nI 0)), Km_t hK (Km_t (Km_up (Or.inl ⟨rfl, by decide⟩)) Km_run), MW_run h0, mr_eq hw h0 hz, fun f Rt => ?_⟩
  simp only [u114_0, u114_1, u114_4, u114_5, u114_6, u114_9, u114_10, u114_11, u114_14, Rd_e hR, s_mr hw h0 hz, pu_some, pu_none]
theorem MQ_0 (h : MWn N B (w0 N B) M) : MQt N B M := ⟨nI 0, h⟩
theorem Bs_m8 (h : Bs N B m) : mN N B ≤ 8 ∧ iN N B ≤ 8 ∧ fN N B ≤ 6 := (Bs_ok0 h).1
/-- pure answers -/
def sndP (men : Nat) (w : AMem) (x : Int32) : Int32 := it men (fun k (c : Int32) => if (x >>> (nI k &&& 31)) &&& nI 1 = nI 1 ∧ (¬ w 1 k = nI 2 ∧ ¬ w 1 k = nI 3) then c + nI 1 else c) (nI 0)
theorem q_owesOf (h : Bs N B m) {z k : Nat} (hz : z < 30) (hk : k < mN N B) : ∃ M, Km m M ∧ MQt N B M ∧ ∀ (f : Nat) (Rt : Option Value → AMem → Prop), T S (f + 8) 113 0 [some (.ref 73), some (.int (nI z)), some (.int (nI k))] [] m Rt = Rt (some (.int (RR N B (w0 N B) z 86 k))) M := by
  obtain ⟨M, hK, hM, hE, e⟩ := told_ok (S := S) h (show z < 90 by omega)
  have h8 := (Bs_m8 h).1
  have hB : inB (nI k) 8 = true := inB8 (by omega) (by decide)
  have hc : (nI k).toNatClampNeg = k := nI_cl8 (by omega)
  refine ⟨M, hK, MQ_0 hM, fun f Rt => ?_⟩
  simp only [u113_0, u113_1, u113_2, u113_5, u113_6, u113_9, u113_10, u113_11, e, pu_some, pu_none, hB, hc, true_and, (hE.1 k hk).1]
theorem q_purseOf (h : Bs N B m) {z k : Nat} (hz : z < 30) (hk : k < mN N B) : ∃ M, Km m M ∧ MQt N B M ∧ ∀ (f : Nat) (Rt : Option Value → AMem → Prop), T S (f + 8) 122 0 [some (.ref 73), some (.int (nI z)), some (.int (nI k))] [] m Rt = Rt (some (.int (RR N B (w0 N B) z 87 k))) M := by
  obtain ⟨M, hK, hM, hE, e⟩ := told_ok (S := S) h (show z < 90 by omega)
  have h8 := (Bs_m8 h).1
  have hB : inB (nI k) 8 = true := inB8 (by omega) (by decide)
  have hc : (nI k).toNatClampNeg = k := nI_cl8 (by omega)
  refine ⟨M, hK, MQ_0 hM, fun f Rt => ?_⟩
  simp only [u122_0, u122_1, u122_2, u122_5, u122_6, u122_9, u122_10, u122_11, e, pu_some, pu_none, hB, hc, true_and, (hE.1 k hk).2.1]
theorem q_whereOf (h : Bs N B m) {z k : Nat} (hz : z < 30) (hk : k < mN N B) : ∃ M, Km m M ∧ MQt N B M ∧ ∀ (f : Nat) (Rt : Option Value → AMem → Prop), T S (f + 8) 124 0 [some (.ref 73), some (.int (nI z)), some (.int (nI k))] [] m Rt = Rt (some (.int (RR N B (w0 N B) z 88 k))) M := by
  obtain ⟨M, hK, hM, hE, e⟩ := told_ok (S := S) h (show z < 90 by omega)
  have h8 := (Bs_m8 h).1
  have hB : inB (nI k) 8 = true := inB8 (by omega) (by decide)
  have hc : (nI k).toNatClampNeg = k := nI_cl8 (by omega)
  refine ⟨M, hK, MQ_0 hM, fun f Rt => ?_⟩
  simp only [u124_0, u124_1, u124_2, u124_5, u124_6, u124_9, u124_10, u124_11, e, pu_some, pu_none, hB, hc, true_and, (hE.1 k hk).2.2.1]
/-- what is owed to a house -/
def dueP (men : Nat) (h : Int32) (R : AMem) : Int32 := it men (fun k (s : Int32) => if R 88 k = h then s + R 86 k else s) (nI 0)
theorem q_takesOf (h : Bs N B m) {z k : Nat} {v : Int32} (hz : z < 30) (hk : k < iN N B) : ∃ M, Km m M ∧ MQt N B M ∧ ∀ (f : Nat) (Rt : Option Value → AMem → Prop), T S (f + 8) 126 0 [some (.ref 73), some (.int (nI z)), some (.int (nI k)), some (.int v), none, none] [] m Rt = Rt (some (.int (if v = nI 0 then RR N B (w0 N B) z 89 k else dueP (mN N B) (nI k) (RR N B (w0 N B) z)))) M := by
  obtain ⟨M, hK, hM, hE, e0⟩ := told_ok (S := S) h (show z < 90 by omega)
  obtain ⟨h8, h8i, h6⟩ := Bs_m8 h
  have hB : inB (nI k) 8 = true := inB8 (by omega) (by decide)
  have hc : (nI k).toNatClampNeg = k := nI_cl8 (by omega)
  refine ⟨M, hK, MQ_0 hM, fun f Rt => ?_⟩
  have e := it_run (fun i (s : Int32) => T S (f + 8) 126 11 [some (.ref 73), some (.int (nI z)), some (.int (nI k)), some (.int v), some (.int s), some (.int (nI i))] [] M Rt) (fun i (s : Int32) => if RR N B (w0 N B) z 88 i = nI k then s + RR N B (w0 N B) z 86 i else s) (fun _ _ => True) (mN N B) (fun _ _ _ _ => trivial) (fun i hi s _ => by
    have hle : (nI (mN N B) ≤ nI i) = False := by rw [nI_le8 (by omega) (by omega)]; exact eq_false (by omega)
    have hBi : inB (nI i) 8 = true := inB8 (by omega) (by decide)
    have hci : (nI i).toNatClampNeg = i := nI_cl8 (by omega)
    refine u126_11.trans ?_
    rw [← (hE.1 i hi).1, ← (hE.1 i hi).2.2.1]
    by_cases q : M 88 i = nI k
    · simp only [u126_0, u126_1, u126_2, u126_5, u126_6, u126_8, u126_9, u126_13, u126_14, u126_17, u126_20, u126_22, u126_23, u126_26, u126_28, u126_29, u126_30, u126_33, u126_34, u126_37, u126_39, u126_40, u126_43, u126_44, u126_45, u126_47, u126_50, u126_53, u126_54, u126_57, u126_58, u126_61, u126_62, u126_63, u126_66, u126_68, hM.1.1, hle, if_false, hBi, hci, true_and, q, if_true, nI_add]
    · simp only [u126_0, u126_1, u126_2, u126_5, u126_6, u126_8, u126_9, u126_13, u126_14, u126_17, u126_20, u126_22, u126_23, u126_26, u126_28, u126_29, u126_30, u126_33, u126_34, u126_37, u126_39, u126_40, u126_43, u126_44, u126_45, u126_47, u126_50, u126_53, u126_54, u126_57, u126_58, u126_61, u126_62, u126_63, u126_66, u126_68, hM.1.1, hle, if_false, hBi, hci, true_and, q, nI_add, show (nI 0 : Int32) = 0 from rfl, Int32.add_zero]) (nI 0) trivial
  refine Eq.trans ?_ (e.trans ?_)
  · simp only [u126_0, u126_1, u126_2, u126_5, u126_6, u126_8, u126_9, u126_13, u126_14, u126_17, u126_20, u126_22, u126_23, u126_26, u126_28, u126_29, u126_30, u126_33, u126_34, u126_37, u126_39, u126_40, u126_43, u126_44, u126_45, u126_47, u126_50, u126_53, u126_54, u126_57, u126_58, u126_61, u126_62, u126_63, u126_66, u126_68, e0, pu_some, pu_none]
  · refine u126_11.trans ?_
    by_cases v0 : v = nI 0
    · simp (disch := omega) only [u126_0, u126_1, u126_2, u126_5, u126_6, u126_8, u126_9, u126_13, u126_14, u126_17, u126_20, u126_22, u126_23, u126_26, u126_28, u126_29, u126_30, u126_33, u126_34, u126_37, u126_39, u126_40, u126_43, u126_44, u126_45, u126_47, u126_50, u126_53, u126_54, u126_57, u126_58, u126_61, u126_62, u126_63, u126_66, u126_68, hM.1.1, nI_le8, Nat.le_refl, if_true, v0, hB, hc, true_and, hE.2.1 k (show k < 8 by omega)]
    · simp (disch := omega) only [u126_0, u126_1, u126_2, u126_5, u126_6, u126_8, u126_9, u126_13, u126_14, u126_17, u126_20, u126_22, u126_23, u126_26, u126_28, u126_29, u126_30, u126_33, u126_34, u126_37, u126_39, u126_40, u126_43, u126_44, u126_45, u126_47, u126_50, u126_53, u126_54, u126_57, u126_58, u126_61, u126_62, u126_63, u126_66, u126_68, hM.1.1, nI_le8, Nat.le_refl, if_true, if_false, v0]
      rfl
theorem kind_lt2 {a : Nat} (h : a < 4) : (nI 2 ≤ nI a) = ¬ (¬ nI a = nI 2 ∧ ¬ nI a = nI 3) := by
  rw [nI_eq8 (by omega) (by omega), nI_eq8 (by omega) (by omega), nI_le8 (by omega) (by omega)]
  exact propext ⟨fun z => by omega, fun z => by omega⟩
/-- how many are sound, on the other side -/
theorem s_msound (hw : Wkn N B w) (h : MWn N B w M) {s f : Nat} {Rt : Option Value → AMem → Prop} (hs : s < 6) : T S (f + 2) 129 0 [some (.ref 73), some (.int (nI s)), none, none] [] M Rt = Rt (some (.int (sndP (mN N B) w (M 92 s)))) M := by
  have h8 := hw.1.1
  have hB : inB (nI s) 6 = true := inB8 (by omega) (by decide)
  have hc : (nI s).toNatClampNeg = s := nI_cl8 (by omega)
  have e := it_run (fun i (c : Int32) => T S (f + 2) 129 4 [some (.ref 73), some (.int (nI s)), some (.int c), some (.int (nI i))] [] M Rt) (fun k (c : Int32) => if (M 92 s >>> (nI k &&& 31)) &&& nI 1 = nI 1 ∧ (¬ w 1 k = nI 2 ∧ ¬ w 1 k = nI 3) then c + nI 1 else c) (fun _ _ => True) (mN N B) (fun _ _ _ _ => trivial) (fun i hi c _ => by
    have hle : (nI (mN N B) ≤ nI i) = False := by rw [nI_le8 (by omega) (by omega)]; exact eq_false (by omega)
    have hBi : inB (nI i) 9 = true := inB8 (by omega) (by decide)
    have hci : (nI i).toNatClampNeg = i := nI_cl8 (by omega)
    have ek : M 76 i = w 1 i := h.2.2.1 1 i (by omega) (by omega) hi
    obtain ⟨a, ha, ea⟩ := (hw.2.1 i hi).1
    have k2 := kind_lt2 ha
    refine u129_4.trans ?_
    rw [ea]
    by_cases q : (M 92 s >>> (nI i &&& 31)) &&& nI 1 = nI 1
    · by_cases q2 : ¬ nI a = nI 2 ∧ ¬ nI a = nI 3
      · have q3 : (nI 2 ≤ nI a) = False := by rw [k2]; exact eq_false (fun z => z q2)
        have q4 : ((M 92 s >>> (nI i &&& 31)) &&& nI 1 = nI 1 ∧ ¬ nI a = nI 2 ∧ ¬ nI a = nI 3) = True := eq_true ⟨q, q2⟩
        simp only [u129_0, u129_1, u129_2, u129_3, u129_5, u129_6, u129_9, u129_12, u129_13, u129_14, u129_17, u129_18, u129_19, u129_20, u129_23, u129_26, u129_27, u129_30, u129_31, u129_32, u129_33, u129_36, u129_37, u129_40, u129_41, u129_42, u129_43, u129_46, u129_49, u129_50, h.1.1, hle, if_false, hB, hc, hBi, hci, true_and, s_mIsIn, pu_some, pu_none, b01_e0, q, not_true, ek, ea, q3, nI_add]
        simp only [q2, not_false_iff, and_self, if_true]
      · have q3 : (nI 2 ≤ nI a) = True := by rw [k2]; exact eq_true q2
        simp only [u129_0, u129_1, u129_2, u129_3, u129_5, u129_6, u129_9, u129_12, u129_13, u129_14, u129_17, u129_18, u129_19, u129_20, u129_23, u129_26, u129_27, u129_30, u129_31, u129_32, u129_33, u129_36, u129_37, u129_40, u129_41, u129_42, u129_43, u129_46, u129_49, u129_50, h.1.1, hle, if_false, hB, hc, hBi, hci, true_and, s_mIsIn, pu_some, pu_none, b01_e0, q, not_true, ek, ea, q3, if_true, nI_add]
        rw [if_neg (fun z => q2 z), show (nI 0 : Int32) = 0 from rfl, Int32.add_zero]
    · simp only [u129_0, u129_1, u129_2, u129_3, u129_5, u129_6, u129_9, u129_12, u129_13, u129_14, u129_17, u129_18, u129_19, u129_20, u129_23, u129_26, u129_27, u129_30, u129_31, u129_32, u129_33, u129_36, u129_37, u129_40, u129_41, u129_42, u129_43, u129_46, u129_49, u129_50, h.1.1, hle, if_false, hB, hc, hBi, hci, true_and, s_mIsIn, pu_some, pu_none, b01_e0, q, not_false_iff, if_true, nI_add]
      rw [if_neg (fun z => by cases z.1), show (nI 0 : Int32) = 0 from rfl, Int32.add_zero]) (nI 0) trivial
  refine Eq.trans ?_ (e.trans ?_)
  · simp only [u129_0, u129_1, u129_2, u129_3, u129_5, u129_6, u129_9, u129_12, u129_13, u129_14, u129_17, u129_18, u129_19, u129_20, u129_23, u129_26, u129_27, u129_30, u129_31, u129_32, u129_33, u129_36, u129_37, u129_40, u129_41, u129_42, u129_43, u129_46, u129_49, u129_50]
  · refine u129_4.trans ?_
    simp (disch := omega) only [u129_0, u129_1, u129_2, u129_3, u129_5, u129_6, u129_9, u129_12, u129_13, u129_14, u129_17, u129_18, u129_19, u129_20, u129_23, u129_26, u129_27, u129_30, u129_31, u129_32, u129_33, u129_36, u129_37, u129_40, u129_41, u129_42, u129_43, u129_46, u129_49, u129_50, h.1.1, nI_le8, Nat.le_refl, if_true]
    rfl
end MOF
