section MASK
variable {S : AScr} {f : Nat} {m M M2 : AMem} {Rt : Option Value → AMem → Prop} {men inns fleet : Nat} {lo ti nd : Nat → Nat}
theorem s_mowesOf (hR : Rd S M M2) (h : MT men inns fleet lo M2) (hD : MD fleet ti nd M2) {z k : Nat} (hz : z < 90) (hk : k < 8) : T S (f + 8) 113 0 [some (.ref 73), some (.int (nI z)), some (.int (nI k))] [] M Rt = Rt (some (.int (toldM men fleet z M2 86 k))) (toldM men fleet z M2) := by
  have hB : inB (nI k) 8 = true := inB8 hk (by decide)
  have hc : (nI k).toNatClampNeg = k := nI_cl8 (by omega)
  simp only [u113_0, u113_1, u113_2, u113_5, u113_6, u113_9, u113_10, u113_11, s_mTold hR h hD hz, pu_some, pu_none, hB, hc, true_and]
theorem s_mowes (hR : Rd S m M) (h : MT men inns fleet lo M) (hR2 : Rd S M M2) (h2 : MT men inns fleet lo M2) (hD : MD fleet ti nd M2) {d x : Int32} : T S (f + 9) 111 0 [some (.ref 73), some (.int d), some (.int x)] [] m Rt = if nI 0 ≤ d ∧ d < nI 30 then (if nI 0 ≤ x ∧ x < nI men then Rt (some (.int (toldM men fleet d.toNatClampNeg M2 86 x.toNatClampNeg))) (toldM men fleet d.toNatClampNeg M2) else Rt (some (.int (-2))) M) else Rt (some (.int (-2))) m := by
  have hb := h.2.1.1
  by_cases hd : nI 0 ≤ d ∧ d < nI 30
  · by_cases hx : nI 0 ≤ x ∧ x < nI men
    · obtain ⟨k, hk, rfl⟩ := P_nI hx (by omega)
      obtain ⟨y, hy, rfl⟩ := P_nI hd (by omega)
      have hk8 : k < 8 := by omega
      have hy9 : y < 90 := by omega
      have hc : (nI k).toNatClampNeg = k := nI_cl8 (by omega)
      have hcy : (nI y).toNatClampNeg = y := nI_cl8 (by omega)
      simp only [u111_0, u111_1, u111_4, u111_7, u111_8, u111_9, u111_12, u111_15, u111_16, u111_17, u111_18, u111_21, u111_24, u111_26, s_mDay, s_mIsSailor hR h, pu_some, pu_none, b01_e0, hd, hx, and_self, not_true, if_false, if_true, s_mowesOf hR2 h2 hD hy9 hk8, hc, hcy]
    · simp only [u111_0, u111_1, u111_4, u111_7, u111_8, u111_9, u111_12, u111_15, u111_16, u111_17, u111_18, u111_21, u111_24, u111_26, s_mDay, s_mIsSailor hR h, pu_some, pu_none, b01_e0, hd, hx, and_self, not_true, not_false_iff, if_false, if_true]
  · simp only [u111_0, u111_1, u111_4, u111_7, u111_8, u111_9, u111_12, u111_15, u111_16, u111_17, u111_18, u111_21, u111_24, u111_26, s_mDay, pu_some, pu_none, b01_e0, hd, not_false_iff, if_true, if_false]
theorem s_mpurseOf (hR : Rd S M M2) (h : MT men inns fleet lo M2) (hD : MD fleet ti nd M2) {z k : Nat} (hz : z < 90) (hk : k < 8) : T S (f + 8) 122 0 [some (.ref 73), some (.int (nI z)), some (.int (nI k))] [] M Rt = Rt (some (.int (toldM men fleet z M2 87 k))) (toldM men fleet z M2) := by
  have hB : inB (nI k) 8 = true := inB8 hk (by decide)
  have hc : (nI k).toNatClampNeg = k := nI_cl8 (by omega)
  simp only [u122_0, u122_1, u122_2, u122_5, u122_6, u122_9, u122_10, u122_11, s_mTold hR h hD hz, pu_some, pu_none, hB, hc, true_and]
theorem s_mpurse (hR : Rd S m M) (h : MT men inns fleet lo M) (hR2 : Rd S M M2) (h2 : MT men inns fleet lo M2) (hD : MD fleet ti nd M2) {d x : Int32} : T S (f + 9) 121 0 [some (.ref 73), some (.int d), some (.int x)] [] m Rt = if nI 0 ≤ d ∧ d < nI 30 then (if nI 0 ≤ x ∧ x < nI men then Rt (some (.int (toldM men fleet d.toNatClampNeg M2 87 x.toNatClampNeg))) (toldM men fleet d.toNatClampNeg M2) else Rt (some (.int (-2))) M) else Rt (some (.int (-2))) m := by
  have hb := h.2.1.1
  by_cases hd : nI 0 ≤ d ∧ d < nI 30
  · by_cases hx : nI 0 ≤ x ∧ x < nI men
    · obtain ⟨k, hk, rfl⟩ := P_nI hx (by omega)
      obtain ⟨y, hy, rfl⟩ := P_nI hd (by omega)
      have hk8 : k < 8 := by omega
      have hy9 : y < 90 := by omega
      have hc : (nI k).toNatClampNeg = k := nI_cl8 (by omega)
      have hcy : (nI y).toNatClampNeg = y := nI_cl8 (by omega)
      simp only [u121_0, u121_1, u121_4, u121_7, u121_8, u121_9, u121_12, u121_15, u121_16, u121_17, u121_18, u121_21, u121_24, u121_26, s_mDay, s_mIsSailor hR h, pu_some, pu_none, b01_e0, hd, hx, and_self, not_true, if_false, if_true, s_mpurseOf hR2 h2 hD hy9 hk8, hc, hcy]
    · simp only [u121_0, u121_1, u121_4, u121_7, u121_8, u121_9, u121_12, u121_15, u121_16, u121_17, u121_18, u121_21, u121_24, u121_26, s_mDay, s_mIsSailor hR h, pu_some, pu_none, b01_e0, hd, hx, and_self, not_true, not_false_iff, if_false, if_true]
  · simp only [u121_0, u121_1, u121_4, u121_7, u121_8, u121_9, u121_12, u121_15, u121_16, u121_17, u121_18, u121_21, u121_24, u121_26, s_mDay, pu_some, pu_none, b01_e0, hd, not_false_iff, if_true, if_false]
theorem s_mwhereOf (hR : Rd S M M2) (h : MT men inns fleet lo M2) (hD : MD fleet ti nd M2) {z k : Nat} (hz : z < 90) (hk : k < 8) : T S (f + 8) 124 0 [some (.ref 73), some (.int (nI z)), some (.int (nI k))] [] M Rt = Rt (some (.int (toldM men fleet z M2 88 k))) (toldM men fleet z M2) := by
  have hB : inB (nI k) 8 = true := inB8 hk (by decide)
  have hc : (nI k).toNatClampNeg = k := nI_cl8 (by omega)
  simp only [u124_0, u124_1, u124_2, u124_5, u124_6, u124_9, u124_10, u124_11, s_mTold hR h hD hz, pu_some, pu_none, hB, hc, true_and]
theorem s_mwhere (hR : Rd S m M) (h : MT men inns fleet lo M) (hR2 : Rd S M M2) (h2 : MT men inns fleet lo M2) (hD : MD fleet ti nd M2) {d x : Int32} : T S (f + 9) 123 0 [some (.ref 73), some (.int d), some (.int x)] [] m Rt = if nI 0 ≤ d ∧ d < nI 30 then (if nI 0 ≤ x ∧ x < nI men then Rt (some (.int (toldM men fleet d.toNatClampNeg M2 88 x.toNatClampNeg))) (toldM men fleet d.toNatClampNeg M2) else Rt (some (.int (-2))) M) else Rt (some (.int (-2))) m := by
  have hb := h.2.1.1
  by_cases hd : nI 0 ≤ d ∧ d < nI 30
  · by_cases hx : nI 0 ≤ x ∧ x < nI men
    · obtain ⟨k, hk, rfl⟩ := P_nI hx (by omega)
      obtain ⟨y, hy, rfl⟩ := P_nI hd (by omega)
      have hk8 : k < 8 := by omega
      have hy9 : y < 90 := by omega
      have hc : (nI k).toNatClampNeg = k := nI_cl8 (by omega)
      have hcy : (nI y).toNatClampNeg = y := nI_cl8 (by omega)
      simp only [u123_0, u123_1, u123_4, u123_7, u123_8, u123_9, u123_12, u123_15, u123_16, u123_17, u123_18, u123_21, u123_24, u123_26, s_mDay, s_mIsSailor hR h, pu_some, pu_none, b01_e0, hd, hx, and_self, not_true, if_false, if_true, s_mwhereOf hR2 h2 hD hy9 hk8, hc, hcy]
    · simp only [u123_0, u123_1, u123_4, u123_7, u123_8, u123_9, u123_12, u123_15, u123_16, u123_17, u123_18, u123_21, u123_24, u123_26, s_mDay, s_mIsSailor hR h, pu_some, pu_none, b01_e0, hd, hx, and_self, not_true, not_false_iff, if_false, if_true]
  · simp only [u123_0, u123_1, u123_4, u123_7, u123_8, u123_9, u123_12, u123_15, u123_16, u123_17, u123_18, u123_21, u123_24, u123_26, s_mDay, pu_some, pu_none, b01_e0, hd, not_false_iff, if_true, if_false]
def dueM (men : Nat) (h : Int32) (m : AMem) : Int32 := it men (fun k (s : Int32) => s + (if m 88 k = h then m 86 k else nI 0)) (nI 0)
theorem MT_told (h : MT men inns fleet lo M) {z : Nat} : MT men inns fleet lo (toldM men fleet z M) := MT_run (MT_up h (by omega) (by omega))
theorem s_mTakesOf (hR : Rd S M M2) (h : MT men inns fleet lo M2) (hD : MD fleet ti nd M2) {z k : Nat} {w : Int32} (hz : z < 90) (hk : k < 8) : T S (f + 8) 126 0 [some (.ref 73), some (.int (nI z)), some (.int (nI k)), some (.int w), none, none] [] M Rt = Rt (some (.int (if w = nI 0 then toldM men fleet z M2 89 k else dueM men (nI k) (toldM men fleet z M2)))) (toldM men fleet z M2) := by
  have hB : inB (nI k) 8 = true := inB8 hk (by decide)
  have hc : (nI k).toNatClampNeg = k := nI_cl8 (by omega)
  have hb := h.2.1.1
  have hE := MT_told (z := z) h
  have e0 := fun Rt => s_mTold (f := f) (Rt := Rt) hR h hD hz
  generalize toldM men fleet z M2 = E at hE e0
  have e := it_run (fun i (s : Int32) => T S (f + 8) 126 11 [some (.ref 73), some (.int (nI z)), some (.int (nI k)), some (.int w), some (.int s), some (.int (nI i))] [] E Rt) (fun i (s : Int32) => s + (if E 88 i = nI k then E 86 i else nI 0)) (fun _ _ => True) men (fun _ _ _ _ => trivial) (fun i hi s _ => by
    have hle : (nI men ≤ nI i) = False := by rw [nI_le8 (by omega) (by omega)]; exact eq_false (by omega)
    have hBi : inB (nI i) 8 = true := inB8 (by omega) (by decide)
    have hci : (nI i).toNatClampNeg = i := nI_cl8 (by omega)
    refine u126_11.trans ?_
    by_cases q : E 88 i = nI k
    · simp only [u126_0, u126_1, u126_2, u126_5, u126_6, u126_8, u126_9, u126_13, u126_14, u126_17, u126_20, u126_22, u126_23, u126_26, u126_28, u126_29, u126_30, u126_33, u126_34, u126_37, u126_39, u126_40, u126_43, u126_44, u126_45, u126_47, u126_50, u126_53, u126_54, u126_57, u126_58, u126_61, u126_62, u126_63, u126_66, u126_68, hE.1.1, hle, if_false, hBi, hci, true_and, q, if_true, nI_add]
    · simp only [u126_0, u126_1, u126_2, u126_5, u126_6, u126_8, u126_9, u126_13, u126_14, u126_17, u126_20, u126_22, u126_23, u126_26, u126_28, u126_29, u126_30, u126_33, u126_34, u126_37, u126_39, u126_40, u126_43, u126_44, u126_45, u126_47, u126_50, u126_53, u126_54, u126_57, u126_58, u126_61, u126_62, u126_63, u126_66, u126_68, hE.1.1, hle, if_false, hBi, hci, true_and, q, nI_add]) (nI 0) trivial
  refine Eq.trans ?_ (e.trans ?_)
  · simp only [u126_0, u126_1, u126_2, u126_5, u126_6, u126_8, u126_9, u126_13, u126_14, u126_17, u126_20, u126_22, u126_23, u126_26, u126_28, u126_29, u126_30, u126_33, u126_34, u126_37, u126_39, u126_40, u126_43, u126_44, u126_45, u126_47, u126_50, u126_53, u126_54, u126_57, u126_58, u126_61, u126_62, u126_63, u126_66, u126_68, e0, pu_some, pu_none]
  · refine u126_11.trans ?_
    by_cases w0 : w = nI 0
    · simp (disch := omega) only [u126_0, u126_1, u126_2, u126_5, u126_6, u126_8, u126_9, u126_13, u126_14, u126_17, u126_20, u126_22, u126_23, u126_26, u126_28, u126_29, u126_30, u126_33, u126_34, u126_37, u126_39, u126_40, u126_43, u126_44, u126_45, u126_47, u126_50, u126_53, u126_54, u126_57, u126_58, u126_61, u126_62, u126_63, u126_66, u126_68, hE.1.1, nI_le8, Nat.le_refl, if_true, w0, hB, hc, true_and]
    · simp (disch := omega) only [u126_0, u126_1, u126_2, u126_5, u126_6, u126_8, u126_9, u126_13, u126_14, u126_17, u126_20, u126_22, u126_23, u126_26, u126_28, u126_29, u126_30, u126_33, u126_34, u126_37, u126_39, u126_40, u126_43, u126_44, u126_45, u126_47, u126_50, u126_53, u126_54, u126_57, u126_58, u126_61, u126_62, u126_63, u126_66, u126_68, hE.1.1, nI_le8, Nat.le_refl, if_true, if_false, w0]
      rfl
theorem s_mLast (hR : Rd S M M2) (h : MT men inns fleet lo M2) (hD : MD fleet ti nd M2) : T S (f + 9) 133 0 [some (.ref 73)] [] M Rt = Rt (some (.int (toldM men fleet 29 M2 73 24))) (toldM men fleet 29 M2) := by
  have hz : 29 < 90 := by decide
  simp only [u133_0, u133_1, u133_4, u134_0, u134_1, u134_3, u134_6, u134_7, u134_10, s_mTold hR h hD hz, pu_some, pu_none]
theorem s_mTakes (hR : Rd S m M) (h : MT men inns fleet lo M) (hR2 : Rd S M M2) (h2 : MT men inns fleet lo M2) (hD : MD fleet ti nd M2) {d x w : Int32} : T S (f + 9) 125 0 [some (.ref 73), some (.int d), some (.int x), some (.int w)] [] m Rt = if nI 0 ≤ d ∧ d < nI 30 then (if (nI 0 ≤ x ∧ x < nI inns) ∧ (nI 0 ≤ w ∧ w < nI 2) then Rt (some (.int (if w = nI 0 then toldM men fleet d.toNatClampNeg M2 89 x.toNatClampNeg else dueM men x (toldM men fleet d.toNatClampNeg M2)))) (toldM men fleet d.toNatClampNeg M2) else Rt (some (.int (-2))) M) else Rt (some (.int (-2))) m := by
  have hb := h.2.1.2.1
  have e3 : (w ≤ nI 1) = (w < nI 2) := le_lt1 (by decide)
  by_cases hd : nI 0 ≤ d ∧ d < nI 30
  · by_cases hx : nI 0 ≤ x ∧ x < nI inns
    · by_cases hw : nI 0 ≤ w ∧ w < nI 2
      · obtain ⟨k, hk, rfl⟩ := P_nI hx (by omega)
        obtain ⟨y, hy, rfl⟩ := P_nI hd (by omega)
        have hk8 : k < 8 := by omega
        have hy9 : y < 90 := by omega
        have hc : (nI k).toNatClampNeg = k := nI_cl8 (by omega)
        have hcy : (nI y).toNatClampNeg = y := nI_cl8 (by omega)
        have hwt : (nI 0 ≤ w ∧ w < nI 2) = True := eq_true hw
        simp only [u125_0, u125_1, u125_4, u125_7, u125_8, u125_9, u125_12, u125_15, u125_16, u125_17, u125_18, u125_21, u125_24, u125_25, u125_26, u125_27, u125_28, u125_31, u125_34, u125_36, s_mDay, s_mIsHouse hR h, s_mIn, pu_some, pu_none, b01_e0, hd, hx, e3, hwt, and_self, not_true, if_false, if_true, s_mTakesOf hR2 h2 hD hy9 hk8, hc, hcy]
      · simp only [u125_0, u125_1, u125_4, u125_7, u125_8, u125_9, u125_12, u125_15, u125_16, u125_17, u125_18, u125_21, u125_24, u125_25, u125_26, u125_27, u125_28, u125_31, u125_34, u125_36, s_mDay, s_mIsHouse hR h, s_mIn, pu_some, pu_none, b01_e0, hd, hx, e3, hw, and_self, and_false, not_true, not_false_iff, if_false, if_true]
    · simp only [u125_0, u125_1, u125_4, u125_7, u125_8, u125_9, u125_12, u125_15, u125_16, u125_17, u125_18, u125_21, u125_24, u125_25, u125_26, u125_27, u125_28, u125_31, u125_34, u125_36, s_mDay, s_mIsHouse hR h, pu_some, pu_none, b01_e0, hd, hx, and_self, false_and, not_true, not_false_iff, if_false, if_true]
  · simp only [u125_0, u125_1, u125_4, u125_7, u125_8, u125_9, u125_12, u125_15, u125_16, u125_17, u125_18, u125_21, u125_24, u125_25, u125_26, u125_27, u125_28, u125_31, u125_34, u125_36, s_mDay, pu_some, pu_none, b01_e0, hd, not_false_iff, if_true, if_false]
end MASK
