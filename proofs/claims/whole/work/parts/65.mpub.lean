section MPB
variable {S : AScr} {m m2 m3 M X : AMem} {w : AMem} {N : Nat → Nat} {B : Nat → Nat → Nat}
theorem is_ok (h : Bs N B m) : ∃ M, Km m M ∧ (∀ (f : Nat) (Rt : Option Value → AMem → Prop) (x : Int32), T S (f + 7) 102 0 [some (.ref 73), some (.int x)] [] m Rt = Rt (some (.int (b01 (nI 0 ≤ x ∧ x < nI (mN N B))))) M) ∧ (∀ (f : Nat) (Rt : Option Value → AMem → Prop) (x : Int32), T S (f + 7) 106 0 [some (.ref 73), some (.int x)] [] m Rt = Rt (some (.int (b01 (nI 0 ≤ x ∧ x < nI (iN N B))))) M) ∧ ∀ (f : Nat) (Rt : Option Value → AMem → Prop) (x : Int32), T S (f + 7) 108 0 [some (.ref 73), some (.int x)] [] m Rt = Rt (some (.int (b01 (nI 0 ≤ x ∧ x < nI (fN N B))))) M := by
  obtain ⟨M, x0, hR, hK, hM⟩ := rd_ok (S := S) h
  have hT : MT (mN N B) (iN N B) (fN N B) (loN (w0 N B)) M := by
    have hw := Bs_ok0 h
    refine ⟨hM.1, hw.1, fun k hk => ?_⟩
    rw [show M 79 k = w0 N B 4 k from hM.2.2.1 4 k (by omega) (by omega) hk]
    exact Wlo hw hk
  exact ⟨M, hK, fun f Rt x => s_mIsSailor hR hT, fun f Rt x => s_mIsHouse hR hT, fun f Rt x => s_mIsShip hR hT⟩
theorem MR_same {q : Nat} {a : ALoc} {r : Value} (e : ∀ (f : Nat) (Rt : Option Value → AMem → Prop), T S (f + 13) q 0 a [] m Rt = Rt (some r) m) : MR S q a m r := ⟨m, Km_r, e⟩
theorem m_crew (h : Bs N B m) {x v : Int32} : MR S 127 [some (.ref 73), some (.int x), some (.int v)] m (.int (aCrew N B x v)) := by
  obtain ⟨M, hK, i1, i2, i3⟩ := is_ok (S := S) h
  have hB := Bs_m h hK
  have hb := Bs_m8 h
  have e3 : (v ≤ nI 4) = (v < nI 5) := le_lt1 (by decide)
  unfold aCrew
  by_cases hx : nI 0 ≤ x ∧ x < nI (fN N B)
  · by_cases hv : nI 0 ≤ v ∧ v < nI 5
    · rw [if_pos ⟨hx, hv⟩]
      obtain ⟨k, hk, rfl⟩ := P_nI hx (by omega)
      have hc : (nI k).toNatClampNeg = k := nI_cl8 (by omega)
      obtain ⟨M2, k2, _, e⟩ := q_crewOf (S := S) (v := v) hB hk
      refine ⟨M2, Km_t hK k2, fun f Rt => ?_⟩
      have hvt : (nI 0 ≤ v ∧ v < nI 5) = True := eq_true hv
      simp only [u127_0, u127_1, u127_2, u127_5, u127_8, u127_9, u127_10, u127_11, u127_14, u127_17, u127_18, u127_19, u127_20, u127_23, u127_26, u127_28, i3, s_mIn, pu_some, pu_none, b01_e0, hx, e3, hvt, and_self, not_true, if_false, e, hc]
    · rw [if_neg (fun z => hv z.2)]
      refine ⟨M, hK, fun f Rt => ?_⟩
      simp only [u127_0, u127_1, u127_2, u127_5, u127_8, u127_9, u127_10, u127_11, u127_14, u127_17, u127_18, u127_19, u127_20, u127_23, u127_26, u127_28, i3, s_mIn, pu_some, pu_none, b01_e0, hx, e3, hv, and_self, not_true, not_false_iff, if_false, if_true]
  · rw [if_neg (fun z => hx z.1)]
    refine ⟨M, hK, fun f Rt => ?_⟩
    simp only [u127_0, u127_1, u127_2, u127_5, u127_8, u127_9, u127_10, u127_11, u127_14, u127_17, u127_18, u127_19, u127_20, u127_23, u127_26, u127_28, i3, pu_some, pu_none, b01_e0, hx, not_false_iff, if_true]
theorem m_price (h : Bs N B m) {x v : Int32} : MR S 135 [some (.ref 73), some (.int x), some (.int v)] m (.int (aPrice N B x v)) := by
  obtain ⟨M, hK, i1, i2, i3⟩ := is_ok (S := S) h
  have hB := Bs_m h hK
  have hb := Bs_m8 h
  have e3 : (v ≤ nI 1) = (v < nI 2) := le_lt1 (by decide)
  unfold aPrice
  by_cases hx : nI 0 ≤ x ∧ x < nI (iN N B)
  · by_cases hv : nI 0 ≤ v ∧ v < nI 2
    · rw [if_pos ⟨hx, hv⟩]
      obtain ⟨k, hk, rfl⟩ := P_nI hx (by omega)
      have hc : (nI k).toNatClampNeg = k := nI_cl8 (by omega)
      obtain ⟨M2, k2, _, e⟩ := q_priceOf (S := S) (v := v) hB hk
      refine ⟨M2, Km_t hK k2, fun f Rt => ?_⟩
      have hvt : (nI 0 ≤ v ∧ v < nI 2) = True := eq_true hv
      simp only [u135_0, u135_1, u135_2, u135_5, u135_8, u135_9, u135_10, u135_11, u135_14, u135_17, u135_18, u135_19, u135_20, u135_23, u135_26, u135_28, i2, s_mIn, pu_some, pu_none, b01_e0, hx, e3, hvt, and_self, not_true, if_false, e, hc]
    · rw [if_neg (fun z => hv z.2)]
      refine ⟨M, hK, fun f Rt => ?_⟩
      simp only [u135_0, u135_1, u135_2, u135_5, u135_8, u135_9, u135_10, u135_11, u135_14, u135_17, u135_18, u135_19, u135_20, u135_23, u135_26, u135_28, i2, s_mIn, pu_some, pu_none, b01_e0, hx, e3, hv, and_self, not_true, not_false_iff, if_false, if_true]
  · rw [if_neg (fun z => hx z.1)]
    refine ⟨M, hK, fun f Rt => ?_⟩
    simp only [u135_0, u135_1, u135_2, u135_5, u135_8, u135_9, u135_10, u135_11, u135_14, u135_17, u135_18, u135_19, u135_20, u135_23, u135_26, u135_28, i2, pu_some, pu_none, b01_e0, hx, not_false_iff, if_true]
theorem m_lodge (h : Bs N B m) {x v : Int32} : MR S 137 [some (.ref 73), some (.int x), some (.int v)] m (.int (aLodge N B x v)) := by
  obtain ⟨M, hK, i1, i2, i3⟩ := is_ok (S := S) h
  have hB := Bs_m h hK
  have hb := Bs_m8 h
  have e3 : (v ≤ nI 1) = (v < nI 2) := le_lt1 (by decide)
  unfold aLodge
  by_cases hx : nI 0 ≤ x ∧ x < nI (mN N B)
  · by_cases hv : nI 0 ≤ v ∧ v < nI 2
    · rw [if_pos ⟨hx, hv⟩]
      obtain ⟨k, hk, rfl⟩ := P_nI hx (by omega)
      have hc : (nI k).toNatClampNeg = k := nI_cl8 (by omega)
      obtain ⟨M2, k2, _, e⟩ := q_lodgeOf (S := S) (v := v) hB hk
      refine ⟨M2, Km_t hK k2, fun f Rt => ?_⟩
      have hvt : (nI 0 ≤ v ∧ v < nI 2) = True := eq_true hv
      simp only [u137_0, u137_1, u137_2, u137_5, u137_8, u137_9, u137_10, u137_11, u137_14, u137_17, u137_18, u137_19, u137_20, u137_23, u137_26, u137_28, i1, s_mIn, pu_some, pu_none, b01_e0, hx, e3, hvt, and_self, not_true, if_false, e, hc]
    · rw [if_neg (fun z => hv z.2)]
      refine ⟨M, hK, fun f Rt => ?_⟩
      simp only [u137_0, u137_1, u137_2, u137_5, u137_8, u137_9, u137_10, u137_11, u137_14, u137_17, u137_18, u137_19, u137_20, u137_23, u137_26, u137_28, i1, s_mIn, pu_some, pu_none, b01_e0, hx, e3, hv, and_self, not_true, not_false_iff, if_false, if_true]
  · rw [if_neg (fun z => hx z.1)]
    refine ⟨M, hK, fun f Rt => ?_⟩
    simp only [u137_0, u137_1, u137_2, u137_5, u137_8, u137_9, u137_10, u137_11, u137_14, u137_17, u137_18, u137_19, u137_20, u137_23, u137_26, u137_28, i1, pu_some, pu_none, b01_e0, hx, not_false_iff, if_true]
theorem m_was (h : Bs N B m) {x v : Int32} : MR S 153 [some (.ref 73), some (.int x), some (.int v)] m (.int (aWas N B x v)) := by
  obtain ⟨M, hK, i1, i2, i3⟩ := is_ok (S := S) h
  have hB := Bs_m h hK
  have hb := Bs_m8 h
  have e3 : (v ≤ nI 1) = (v < nI 2) := le_lt1 (by decide)
  unfold aWas
  by_cases hx : nI 0 ≤ x ∧ x < nI (mN N B)
  · by_cases hv : nI 0 ≤ v ∧ v < nI 2
    · rw [if_pos ⟨hx, hv⟩]
      obtain ⟨k, hk, rfl⟩ := P_nI hx (by omega)
      have hc : (nI k).toNatClampNeg = k := nI_cl8 (by omega)
      obtain ⟨M2, k2, _, e⟩ := q_wasOf (S := S) hB hk (v := v) (v2 hv)
      refine ⟨M2, Km_t hK k2, fun f Rt => ?_⟩
      have hvt : (nI 0 ≤ v ∧ v < nI 2) = True := eq_true hv
      simp only [u153_0, u153_1, u153_2, u153_5, u153_8, u153_9, u153_10, u153_11, u153_14, u153_17, u153_18, u153_19, u153_20, u153_23, u153_26, u153_28, i1, s_mIn, pu_some, pu_none, b01_e0, hx, e3, hvt, and_self, not_true, if_false, e, hc]
    · rw [if_neg (fun z => hv z.2)]
      refine ⟨M, hK, fun f Rt => ?_⟩
      simp only [u153_0, u153_1, u153_2, u153_5, u153_8, u153_9, u153_10, u153_11, u153_14, u153_17, u153_18, u153_19, u153_20, u153_23, u153_26, u153_28, i1, s_mIn, pu_some, pu_none, b01_e0, hx, e3, hv, and_self, not_true, not_false_iff, if_false, if_true]
  · rw [if_neg (fun z => hx z.1)]
    refine ⟨M, hK, fun f Rt => ?_⟩
    simp only [u153_0, u153_1, u153_2, u153_5, u153_8, u153_9, u153_10, u153_11, u153_14, u153_17, u153_18, u153_19, u153_20, u153_23, u153_26, u153_28, i1, pu_some, pu_none, b01_e0, hx, not_false_iff, if_true]
theorem m_look (h : Bs N B m) {x : Int32} : MR S 139 [some (.ref 73), some (.int x)] m (.int (aLook N B x)) := by
  obtain ⟨M, hK, i1, i2, i4⟩ := is_ok (S := S) h
  have hB := Bs_m h hK
  have hb := Bs_m8 h
  unfold aLook
  by_cases hx : nI 0 ≤ x ∧ x < nI (fN N B)
  · rw [if_pos hx]
    obtain ⟨k, hk, rfl⟩ := P_nI hx (by omega)
    have hc : (nI k).toNatClampNeg = k := nI_cl8 (by omega)
    obtain ⟨M2, k2, _, e⟩ := q_lookOf (S := S) hB hk
    refine ⟨M2, Km_t hK k2, fun f Rt => ?_⟩
    simp only [u139_0, u139_1, u139_2, u139_5, u139_8, u139_9, u139_10, u139_13, u139_16, u139_18, i4, pu_some, pu_none, b01_e0, hx, and_self, not_true, if_false, e, hc]
  · rw [if_neg hx]
    refine ⟨M, hK, fun f Rt => ?_⟩
    simp only [u139_0, u139_1, u139_2, u139_5, u139_8, u139_9, u139_10, u139_13, u139_16, u139_18, i4, pu_some, pu_none, b01_e0, hx, not_false_iff, if_true]
theorem m_leave (h : Bs N B m) {x v : Int32} : MR S 141 [some (.ref 73), some (.int x), some (.int v)] m (.int (aLeave N B x v)) := by
  obtain ⟨M, hK, i1, i2, i4⟩ := is_ok (S := S) h
  have hB := Bs_m h hK
  have hb := Bs_m8 h
  have e3 : (v ≤ nI 1) = (v < nI 2) := le_lt1 (by decide)
  unfold aLeave
  by_cases hx : nI 0 ≤ x ∧ x < nI (mN N B)
  · by_cases hv : ¬ v < -1 ∧ v < nI 2
    · rw [if_pos ⟨hx, hv⟩]
      obtain ⟨k, hk, rfl⟩ := P_nI hx (by omega)
      have hc : (nI k).toNatClampNeg = k := nI_cl8 (by omega)
      obtain ⟨M2, k2, _, hle, e⟩ := q_leaveBy (S := S) hB hk
      have eo := fun f Rt => q_ofRow (S := S) (f := f) (Rt := Rt) hle (fun n a b z => leN_n z) (i3 hv)
      refine ⟨M2, Km_t hK k2, fun f Rt => ?_⟩
      have hvt : ((-1 : Int32) ≤ v ∧ v < nI 2) = True := eq_true ⟨Int32.not_lt.mp hv.1, hv.2⟩
      simp only [u141_0, u141_1, u141_2, u141_5, u141_8, u141_9, u141_10, u141_11, u141_14, u141_17, u141_18, u141_19, u141_20, u141_23, u141_24, u141_27, u141_30, u141_32, i1, s_mIn, pu_some, pu_none, b01_e0, hx, e3, hvt, and_self, not_true, if_false, e, hc, eo]
    · rw [if_neg (fun z => hv z.2)]
      refine ⟨M, hK, fun f Rt => ?_⟩
      have hvt : ((-1 : Int32) ≤ v ∧ v < nI 2) = False := eq_false (fun z => hv ⟨Int32.not_lt.mpr z.1, z.2⟩)
      simp only [u141_0, u141_1, u141_2, u141_5, u141_8, u141_9, u141_10, u141_11, u141_14, u141_17, u141_18, u141_19, u141_20, u141_23, u141_24, u141_27, u141_30, u141_32, i1, s_mIn, pu_some, pu_none, b01_e0, hx, e3, hvt, and_self, not_true, not_false_iff, if_false, if_true]
  · rw [if_neg (fun z => hx z.1)]
    refine ⟨M, hK, fun f Rt => ?_⟩
    simp only [u141_0, u141_1, u141_2, u141_5, u141_8, u141_9, u141_10, u141_11, u141_14, u141_17, u141_18, u141_19, u141_20, u141_23, u141_24, u141_27, u141_30, u141_32, i1, pu_some, pu_none, b01_e0, hx, not_false_iff, if_true]
theorem m_richest (h : Bs N B m) {d : Int32} : MR S 131 [some (.ref 73), some (.int d)] m (.int (aRich N B d)) := by
  unfold aRich
  by_cases hd : nI 0 ≤ d ∧ d < nI 30
  · rw [if_pos hd]
    obtain ⟨y, hy, rfl⟩ := P_nI hd (by decide)
    have hc : (nI y).toNatClampNeg = y := nI_cl8 (by omega)
    obtain ⟨M2, k2, _, e⟩ := q_richestOf (S := S) h hy
    refine ⟨M2, k2, fun f Rt => ?_⟩
    simp only [u131_0, u131_1, u131_4, u131_7, u131_8, u131_9, u131_12, u131_15, u131_17, s_mDay, pu_some, pu_none, b01_e0, hd, and_self, not_true, if_false, e, hc]
  · rw [if_neg hd]
    refine MR_same (fun f Rt => ?_)
    simp only [u131_0, u131_1, u131_4, u131_7, u131_8, u131_9, u131_12, u131_15, u131_17, s_mDay, pu_some, pu_none, b01_e0, hd, not_false_iff, if_true]
theorem m_ask (h : Bs N B m) {d : Int32} : MR S 155 [some (.ref 73), some (.int d)] m (.int (aAsk N B d)) := by
  unfold aAsk
  by_cases hd : nI 0 ≤ d ∧ d < nI 30
  · rw [if_pos hd]
    obtain ⟨y, hy, rfl⟩ := P_nI hd (by decide)
    have hc : (nI y).toNatClampNeg = y := nI_cl8 (by omega)
    obtain ⟨M2, k2, _, e⟩ := q_askOf (S := S) h hy
    refine ⟨M2, k2, fun f Rt => ?_⟩
    simp only [u155_0, u155_1, u155_4, u155_7, u155_8, u155_9, u155_12, u155_15, u155_17, s_mDay, pu_some, pu_none, b01_e0, hd, and_self, not_true, if_false, e, hc]
  · rw [if_neg hd]
    refine MR_same (fun f Rt => ?_)
    simp only [u155_0, u155_1, u155_4, u155_7, u155_8, u155_9, u155_12, u155_15, u155_17, s_mDay, pu_some, pu_none, b01_e0, hd, not_false_iff, if_true]
theorem m_owes (h : Bs N B m) {d x : Int32} : MR S 111 [some (.ref 73), some (.int d), some (.int x)] m (.int (aOwes N B d x 86)) := by
  obtain ⟨M, hK, i1, i2, i3⟩ := is_ok (S := S) h
  have hB := Bs_m h hK
  have hb := Bs_m8 h
  unfold aOwes
  by_cases hd : nI 0 ≤ d ∧ d < nI 30
  · by_cases hx : nI 0 ≤ x ∧ x < nI (mN N B)
    · rw [if_pos ⟨hd, hx⟩]
      obtain ⟨k, hk, rfl⟩ := P_nI hx (by omega)
      obtain ⟨y, hy, rfl⟩ := P_nI hd (by decide)
      have hc : (nI k).toNatClampNeg = k := nI_cl8 (by omega)
      have hcy : (nI y).toNatClampNeg = y := nI_cl8 (by omega)
      obtain ⟨M2, k2, _, e⟩ := q_owesOf (S := S) hB hy hk
      refine ⟨M2, Km_t hK k2, fun f Rt => ?_⟩
      simp only [u111_0, u111_1, u111_4, u111_7, u111_8, u111_9, u111_12, u111_15, u111_16, u111_17, u111_18, u111_21, u111_24, u111_26, s_mDay, i1, pu_some, pu_none, b01_e0, hd, hx, and_self, not_true, if_false, e, hc, hcy]
    · rw [if_neg (fun z => hx z.2)]
      refine ⟨M, hK, fun f Rt => ?_⟩
      simp only [u111_0, u111_1, u111_4, u111_7, u111_8, u111_9, u111_12, u111_15, u111_16, u111_17, u111_18, u111_21, u111_24, u111_26, s_mDay, i1, pu_some, pu_none, b01_e0, hd, hx, and_self, not_true, not_false_iff, if_false, if_true]
  · rw [if_neg (fun z => hd z.1)]
    refine MR_same (fun f Rt => ?_)
    simp only [u111_0, u111_1, u111_4, u111_7, u111_8, u111_9, u111_12, u111_15, u111_16, u111_17, u111_18, u111_21, u111_24, u111_26, s_mDay, pu_some, pu_none, b01_e0, hd, not_false_iff, if_true]
theorem m_purse (h : Bs N B m) {d x : Int32} : MR S 121 [some (.ref 73), some (.int d), some (.int x)] m (.int (aOwes N B d x 87)) := by
  obtain ⟨M, hK, i1, i2, i3⟩ := is_ok (S := S) h
  have hB := Bs_m h hK
  have hb := Bs_m8 h
  unfold aOwes
  by_cases hd : nI 0 ≤ d ∧ d < nI 30
  · by_cases hx : nI 0 ≤ x ∧ x < nI (mN N B)
    · rw [if_pos ⟨hd, hx⟩]
      obtain ⟨k, hk, rfl⟩ := P_nI hx (by omega)
      obtain ⟨y, hy, rfl⟩ := P_nI hd (by decide)
      have hc : (nI k).toNatClampNeg = k := nI_cl8 (by omega)
      have hcy : (nI y).toNatClampNeg = y := nI_cl8 (by omega)
      obtain ⟨M2, k2, _, e⟩ := q_purseOf (S := S) hB hy hk
      refine ⟨M2, Km_t hK k2, fun f Rt => ?_⟩
      simp only [u121_0, u121_1, u121_4, u121_7, u121_8, u121_9, u121_12, u121_15, u121_16, u121_17, u121_18, u121_21, u121_24, u121_26, s_mDay, i1, pu_some, pu_none, b01_e0, hd, hx, and_self, not_true, if_false, e, hc, hcy]
    · rw [if_neg (fun z => hx z.2)]
      refine ⟨M, hK, fun f Rt => ?_⟩
      simp only [u121_0, u121_1, u121_4, u121_7, u121_8, u121_9, u121_12, u121_15, u121_16, u121_17, u121_18, u121_21, u121_24, u121_26, s_mDay, i1, pu_some, pu_none, b01_e0, hd, hx, and_self, not_true, not_false_iff, if_false, if_true]
  · rw [if_neg (fun z => hd z.1)]
    refine MR_same (fun f Rt => ?_)
    simp only [u121_0, u121_1, u121_4, u121_7, u121_8, u121_9, u121_12, u121_15, u121_16, u121_17, u121_18, u121_21, u121_24, u121_26, s_mDay, pu_some, pu_none, b01_e0, hd, not_false_iff, if_true]
theorem m_where (h : Bs N B m) {d x : Int32} : MR S 123 [some (.ref 73), some (.int d), some (.int x)] m (.int (aOwes N B d x 88)) := by
  obtain ⟨M, hK, i1, i2, i3⟩ := is_ok (S := S) h
  have hB := Bs_m h hK
  have hb := Bs_m8 h
  unfold aOwes
  by_cases hd : nI 0 ≤ d ∧ d < nI 30
  · by_cases hx : nI 0 ≤ x ∧ x < nI (mN N B)
    · rw [if_pos ⟨hd, hx⟩]
      obtain ⟨k, hk, rfl⟩ := P_nI hx (by omega)
      obtain ⟨y, hy, rfl⟩ := P_nI hd (by decide)
      have hc : (nI k).toNatClampNeg = k := nI_cl8 (by omega)
      have hcy : (nI y).toNatClampNeg = y := nI_cl8 (by omega)
      obtain ⟨M2, k2, _, e⟩ := q_whereOf (S := S) hB hy hk
      refine ⟨M2, Km_t hK k2, fun f Rt => ?_⟩
      simp only [u123_0, u123_1, u123_4, u123_7, u123_8, u123_9, u123_12, u123_15, u123_16, u123_17, u123_18, u123_21, u123_24, u123_26, s_mDay, i1, pu_some, pu_none, b01_e0, hd, hx, and_self, not_true, if_false, e, hc, hcy]
    · rw [if_neg (fun z => hx z.2)]
      refine ⟨M, hK, fun f Rt => ?_⟩
      simp only [u123_0, u123_1, u123_4, u123_7, u123_8, u123_9, u123_12, u123_15, u123_16, u123_17, u123_18, u123_21, u123_24, u123_26, s_mDay, i1, pu_some, pu_none, b01_e0, hd, hx, and_self, not_true, not_false_iff, if_false, if_true]
  · rw [if_neg (fun z => hd z.1)]
    refine MR_same (fun f Rt => ?_)
    simp only [u123_0, u123_1, u123_4, u123_7, u123_8, u123_9, u123_12, u123_15, u123_16, u123_17, u123_18, u123_21, u123_24, u123_26, s_mDay, pu_some, pu_none, b01_e0, hd, not_false_iff, if_true]
theorem m_takes (h : Bs N B m) {d x v : Int32} : MR S 125 [some (.ref 73), some (.int d), some (.int x), some (.int v)] m (.int (aTakes N B d x v)) := by
  obtain ⟨M, hK, i1, i2, i3⟩ := is_ok (S := S) h
  have hB := Bs_m h hK
  have hb := Bs_m8 h
  have e3 : (v ≤ nI 1) = (v < nI 2) := le_lt1 (by decide)
  unfold aTakes
  by_cases hd : nI 0 ≤ d ∧ d < nI 30
  · by_cases hx : nI 0 ≤ x ∧ x < nI (iN N B)
    · rw [if_pos ⟨hd, hx⟩]
      obtain ⟨k, hk, rfl⟩ := P_nI hx (by omega)
      obtain ⟨y, hy, rfl⟩ := P_nI hd (by decide)
      have hc : (nI k).toNatClampNeg = k := nI_cl8 (by omega)
      have hcy : (nI y).toNatClampNeg = y := nI_cl8 (by omega)
      by_cases hv : nI 0 ≤ v ∧ v < nI 2
      · obtain ⟨M2, k2, _, e⟩ := q_takesOf (S := S) (v := v) hB hy hk
        refine ⟨M2, Km_t hK k2, fun f Rt => ?_⟩
        have hvt : (nI 0 ≤ v ∧ v < nI 2) = True := eq_true hv
        simp only [u125_0, u125_1, u125_4, u125_7, u125_8, u125_9, u125_12, u125_15, u125_16, u125_17, u125_18, u125_21, u125_24, u125_25, u125_26, u125_27, u125_28, u125_31, u125_34, u125_36, s_mDay, i2, s_mIn, pu_some, pu_none, b01_e0, hd, hx, e3, hvt, and_self, not_true, if_false, e]
        rw [hc, hcy]
        rcases v2 hv with rfl | rfl
        · rw [if_pos rfl, if_pos rfl]
        · rw [if_neg (show ¬ nI 1 = nI 0 by decide), if_neg (show ¬ nI 1 = nI 0 by decide), if_pos rfl]
      · have n0 : ¬ v = nI 0 := fun z => hv (by rw [z]; decide)
        have n1 : ¬ v = nI 1 := fun z => hv (by rw [z]; decide)
        rw [if_neg n0, if_neg n1]
        refine ⟨M, hK, fun f Rt => ?_⟩
        simp only [u125_0, u125_1, u125_4, u125_7, u125_8, u125_9, u125_12, u125_15, u125_16, u125_17, u125_18, u125_21, u125_24, u125_25, u125_26, u125_27, u125_28, u125_31, u125_34, u125_36, s_mDay, i2, s_mIn, pu_some, pu_none, b01_e0, hd, hx, e3, hv, and_self, not_true, not_false_iff, if_false, if_true]
    · rw [if_neg (fun z => hx z.2)]
      refine ⟨M, hK, fun f Rt => ?_⟩
      simp only [u125_0, u125_1, u125_4, u125_7, u125_8, u125_9, u125_12, u125_15, u125_16, u125_17, u125_18, u125_21, u125_24, u125_25, u125_26, u125_27, u125_28, u125_31, u125_34, u125_36, s_mDay, i2, pu_some, pu_none, b01_e0, hd, hx, and_self, not_true, not_false_iff, if_false, if_true]
  · rw [if_neg (fun z => hd z.1)]
    refine MR_same (fun f Rt => ?_)
    simp only [u125_0, u125_1, u125_4, u125_7, u125_8, u125_9, u125_12, u125_15, u125_16, u125_17, u125_18, u125_21, u125_24, u125_25, u125_26, u125_27, u125_28, u125_31, u125_34, u125_36, s_mDay, pu_some, pu_none, b01_e0, hd, not_false_iff, if_true]
theorem m_last (h : Bs N B m) : MR S 133 [some (.ref 73)] m (.int (RR N B (w0 N B) 29 73 24)) := by
  obtain ⟨M2, k2, _, e⟩ := q_lastOf (S := S) h
  refine ⟨M2, k2, fun f Rt => ?_⟩
  simp only [u133_0, u133_1, u133_4, e, pu_some, pu_none]
theorem m_never (h : Bs N B m) : MR S 150 [some (.ref 73)] m (.int (nevP N B)) := by
  obtain ⟨M2, k2, _, e⟩ := q_neverNow (S := S) h
  refine ⟨M2, k2, fun f Rt => ?_⟩
  simp only [u150_0, u150_1, u150_4, e, pu_some, pu_none]
theorem s_no : ∀ (f : Nat) (m : AMem) (Rt : Option Value → AMem → Prop), T S (f + 1) 160 0 [some (.int (-2))] [] m Rt = Rt (some (.long (-9223372036854775806))) m := fun f m Rt => by
  simp only [u160_0, u160_3, u160_4, u160_5, u160_6]
  rfl
theorem m_storm (h : Bs N B m) {c x d v : Int32} : MR S 157 [some (.ref 73), some (.int c), some (.int x), some (.int d), some (.int v)] m (.long (aStorm N B c x d v)) := by
  obtain ⟨M, hK, i1, i2, i3⟩ := is_ok (S := S) h
  have hB := Bs_m h hK
  have hb := Bs_m8 h
  have e3 : (v ≤ nI 1) = (v < nI 2) := le_lt1 (by decide)
  have ec : (nI 0 ≤ c ∧ c ≤ nI 16) = (¬ c < nI 0 ∧ ¬ nI 16 < c) := by rw [Int32.not_lt, Int32.not_lt]
  unfold aStorm
  by_cases hc : ¬ c < nI 0 ∧ ¬ nI 16 < c
  · have hct : (nI 0 ≤ c ∧ c ≤ nI 16) = True := by rw [ec]; exact eq_true hc
    by_cases hx : nI 0 ≤ x ∧ x < nI (mN N B)
    · have hxt : (nI 0 ≤ x ∧ x < nI (mN N B)) = True := eq_true hx
      by_cases hd : nI 0 ≤ d ∧ d < nI 30
      · have hdt : (nI 0 ≤ d ∧ d < nI 30) = True := eq_true hd
        by_cases hv : nI 0 ≤ v ∧ v < nI 2
        · rw [if_pos ⟨hc, hx, hd, hv⟩]
          obtain ⟨cc, hcc, rfl⟩ := P16 hc
          obtain ⟨k, hk, rfl⟩ := P_nI hx (by omega)
          obtain ⟨y, hy, rfl⟩ := P_nI hd (by decide)
          have h1 : (nI k).toNatClampNeg = k := nI_cl8 (by omega)
          have h2 : (nI y).toNatClampNeg = y := nI_cl8 (by omega)
          have h3 : (nI cc).toNatClampNeg = cc := nI_cl8 (by omega)
          obtain ⟨M2, k2, _, e⟩ := q_stormOf (S := S) (v := v) hB hcc hk hy
          refine ⟨M2, Km_t hK k2, fun f Rt => ?_⟩
          have hvt : (nI 0 ≤ v ∧ v < nI 2) = True := eq_true hv
          simp only [u157_0, u157_1, u157_2, u157_4, u157_7, u157_10, u157_11, u157_12, u157_15, u157_18, u157_19, u157_22, u157_25, u157_27, u157_28, u157_29, u157_32, u157_35, u157_36, u157_37, u157_38, u157_39, u157_41, u157_44, u157_47, u157_49, u157_52, s_mDay, i1, s_mIn, pu_some, pu_none, b01_e0, hct, hxt, hdt, e3, hvt, not_true, if_false, e, h1, h2, h3]
        · rw [if_neg (fun z => hv z.2.2.2)]
          refine ⟨M, hK, fun f Rt => ?_⟩
          have hvt : (nI 0 ≤ v ∧ v < nI 2) = False := eq_false hv
          simp only [u157_0, u157_1, u157_2, u157_4, u157_7, u157_10, u157_11, u157_12, u157_15, u157_18, u157_19, u157_22, u157_25, u157_27, u157_28, u157_29, u157_32, u157_35, u157_36, u157_37, u157_38, u157_39, u157_41, u157_44, u157_47, u157_49, u157_52, s_mDay, i1, s_mIn, pu_some, pu_none, b01_e0, hct, hxt, hdt, e3, hvt, not_true, not_false_iff, if_false, if_true, s_no]
      · rw [if_neg (fun z => hd z.2.2.1)]
        refine ⟨M, hK, fun f Rt => ?_⟩
        have hdt : (nI 0 ≤ d ∧ d < nI 30) = False := eq_false hd
        simp only [u157_0, u157_1, u157_2, u157_4, u157_7, u157_10, u157_11, u157_12, u157_15, u157_18, u157_19, u157_22, u157_25, u157_27, u157_28, u157_29, u157_32, u157_35, u157_36, u157_37, u157_38, u157_39, u157_41, u157_44, u157_47, u157_49, u157_52, s_mDay, i1, s_mIn, pu_some, pu_none, b01_e0, hct, hxt, hdt, not_true, not_false_iff, if_false, if_true, s_no]
    · rw [if_neg (fun z => hx z.2.1)]
      refine ⟨M, hK, fun f Rt => ?_⟩
      have hxt : (nI 0 ≤ x ∧ x < nI (mN N B)) = False := eq_false hx
      simp only [u157_0, u157_1, u157_2, u157_4, u157_7, u157_10, u157_11, u157_12, u157_15, u157_18, u157_19, u157_22, u157_25, u157_27, u157_28, u157_29, u157_32, u157_35, u157_36, u157_37, u157_38, u157_39, u157_41, u157_44, u157_47, u157_49, u157_52, i1, s_mIn, pu_some, pu_none, b01_e0, hct, hxt, not_true, not_false_iff, if_false, if_true, s_no]
  · rw [if_neg (fun z => hc z.1)]
    refine MR_same (fun f Rt => ?_)
    have hct : (nI 0 ≤ c ∧ c ≤ nI 16) = False := by rw [ec]; exact eq_false hc
    simp only [u157_0, u157_1, u157_2, u157_4, u157_7, u157_10, u157_11, u157_12, u157_15, u157_18, u157_19, u157_22, u157_25, u157_27, u157_28, u157_29, u157_32, u157_35, u157_36, u157_37, u157_38, u157_39, u157_41, u157_44, u157_47, u157_49, u157_52, s_mIn, pu_some, pu_none, b01_e0, hct, not_false_iff, if_true, s_no]
theorem m_port (h : Bs N B m) {seed x : Int32} : MR S 161 [some (.ref 73), some (.int seed), some (.int x)] m (.int (aPort N B seed x)) := by
  unfold aPort
  by_cases q : x = -1
  · rw [if_pos (Or.inl q)]
    obtain ⟨M2, k2, _, e⟩ := q_portOf (S := S) (seed := seed) (x := x) h (Or.inl q)
    refine ⟨M2, k2, fun f Rt => ?_⟩
    subst q
    simp only [u161_0, u161_1, u161_2, u161_5, u161_6, u161_7, u161_10, u161_13, u161_14, u161_15, u161_16, u161_19, u161_22, u161_24, pu_some, pu_none, if_true, e]
  · obtain ⟨M, hK, i1, i2, i3⟩ := is_ok (S := S) h
    have hB := Bs_m h hK
    have hb := Bs_m8 h
    by_cases hx : nI 0 ≤ x ∧ x < nI (iN N B)
    · rw [if_pos (Or.inr hx)]
      obtain ⟨M2, k2, _, e⟩ := q_portOf (S := S) (seed := seed) (x := x) hB (Or.inr (P_nI hx (by omega)))
      refine ⟨M2, Km_t hK k2, fun f Rt => ?_⟩
      simp only [u161_0, u161_1, u161_2, u161_5, u161_6, u161_7, u161_10, u161_13, u161_14, u161_15, u161_16, u161_19, u161_22, u161_24, i2, pu_some, pu_none, q, if_false, b01_e0, hx, and_self, not_true, e]
    · rw [if_neg (fun z => z.elim q hx)]
      refine ⟨M, hK, fun f Rt => ?_⟩
      simp only [u161_0, u161_1, u161_2, u161_5, u161_6, u161_7, u161_10, u161_13, u161_14, u161_15, u161_16, u161_19, u161_22, u161_24, i2, pu_some, pu_none, q, if_false, b01_e0, hx, not_false_iff, if_true]
theorem m_fault (h : Bs N B m) {x : Int32} : MR S 92 [some (.ref 73), some (.int x)] m (.int (aFault N B x)) := by
  unfold aFault
  by_cases hx : nI 0 ≤ x ∧ x < nI 3
  · rw [if_pos hx]
    obtain ⟨t, ht, rfl⟩ := P_nI hx (by decide)
    obtain ⟨M, x0, e, hK, hM⟩ := rd_fault (S := S) h ht
    refine ⟨M, hK, fun f Rt => ?_⟩
    rw [nI_cl8 (by omega)]
    simp only [u92_0, u92_1, u92_4, u92_7, u92_8, u92_9, u92_12, u92_15, u92_17, s_mText, pu_some, pu_none, b01_e0, hx, and_self, not_true, if_false, e]
  · rw [if_neg hx]
    refine MR_same (fun f Rt => ?_)
    simp only [u92_0, u92_1, u92_4, u92_7, u92_8, u92_9, u92_12, u92_15, u92_17, s_mText, pu_some, pu_none, b01_e0, hx, not_false_iff, if_true]
theorem MT_rd (h : Bs N B m) {x0 : Int32} (hM : MW (mN N B) (iN N B) (fN N B) (wA N B x0) M) : MT (mN N B) (iN N B) (fN N B) (loN (w0 N B)) M := by
  have hw := Bs_ok0 h
  refine ⟨hM.1, hw.1, fun k hk => ?_⟩
  rw [show M 79 k = w0 N B 4 k from hM.2.2.1 4 k (by omega) (by omega) hk]
  exact Wlo hw hk
theorem m_sailor (h : Bs N B m) {x v : Int32} : MR S 101 [some (.ref 73), some (.int x), some (.int v)] m (.int (aRow N B (mN N B) 1 4 x v)) := by
  obtain ⟨M, x0, hR, hK, hM⟩ := rd_ok (S := S) h
  refine ⟨M, hK, fun f Rt => (s_msailor (f := f + 5) hR (MT_rd h hM)).trans ?_⟩
  unfold aRow
  have hb := Bs_m8 h
  by_cases q : (nI 0 ≤ x ∧ x < nI (mN N B)) ∧ (nI 0 ≤ v ∧ v < nI 4)
  · rw [if_pos q, if_pos q]
    obtain ⟨k, hk, rfl⟩ := P_nI q.1 (by omega)
    rw [nI_cl8 (by omega)]
    have c := hM.2.2.1
    unfold msailorOfV
    rcases v4 q.2 with rfl | rfl | rfl | rfl
    · rw [if_pos rfl, show M 76 k = w0 N B 1 k from c 1 k (by omega) (by omega) hk]; rfl
    · rw [if_neg (by decide), if_pos rfl, show M 77 k = w0 N B 2 k from c 2 k (by omega) (by omega) hk]; rfl
    · rw [if_neg (by decide), if_neg (by decide), if_pos rfl, show M 78 k = w0 N B 3 k from c 3 k (by omega) (by omega) hk]; rfl
    · rw [if_neg (by decide), if_neg (by decide), if_neg (by decide), show M 79 k = w0 N B 4 k from c 4 k (by omega) (by omega) hk]; rfl
  · rw [if_neg q, if_neg q]
theorem m_ship (h : Bs N B m) {x v : Int32} : MR S 107 [some (.ref 73), some (.int x), some (.int v)] m (.int (aRow N B (fN N B) 7 4 x v)) := by
  obtain ⟨M, x0, hR, hK, hM⟩ := rd_ok (S := S) h
  refine ⟨M, hK, fun f Rt => (s_mship (f := f + 5) hR (MT_rd h hM)).trans ?_⟩
  unfold aRow
  have hb := Bs_m8 h
  by_cases q : (nI 0 ≤ x ∧ x < nI (fN N B)) ∧ (nI 0 ≤ v ∧ v < nI 4)
  · rw [if_pos q, if_pos q]
    obtain ⟨k, hk, rfl⟩ := P_nI q.1 (by omega)
    rw [nI_cl8 (by omega)]
    have c := hM.2.2.2.2
    unfold mshipOfV
    rcases v4 q.2 with rfl | rfl | rfl | rfl
    · rw [if_pos rfl, show M 82 k = w0 N B 7 k from c 7 k (by omega) (by omega) hk]; rfl
    · rw [if_neg (by decide), if_pos rfl, show M 83 k = w0 N B 8 k from c 8 k (by omega) (by omega) hk]; rfl
    · rw [if_neg (by decide), if_neg (by decide), if_pos rfl, show M 84 k = w0 N B 9 k from c 9 k (by omega) (by omega) hk]; rfl
    · rw [if_neg (by decide), if_neg (by decide), if_neg (by decide), show M 85 k = w0 N B 10 k from c 10 k (by omega) (by omega) hk]; rfl
  · rw [if_neg q, if_neg q]
theorem m_house (h : Bs N B m) {x v : Int32} : MR S 105 [some (.ref 73), some (.int x), some (.int v)] m (.int (aRow N B (iN N B) 5 2 x v)) := by
  obtain ⟨M, x0, hR, hK, hM⟩ := rd_ok (S := S) h
  refine ⟨M, hK, fun f Rt => (s_mHouse (f := f + 5) hR (MT_rd h hM)).trans ?_⟩
  unfold aRow
  have hb := Bs_m8 h
  by_cases q : (nI 0 ≤ x ∧ x < nI (iN N B)) ∧ (nI 0 ≤ v ∧ v < nI 2)
  · rw [if_pos q, if_pos q]
    obtain ⟨k, hk, rfl⟩ := P_nI q.1 (by omega)
    rw [nI_cl8 (by omega)]
    have c := hM.2.2.2.1
    rcases v2 q.2 with rfl | rfl
    · rw [if_pos rfl, show M 80 k = w0 N B 5 k from c 5 k (by omega) (by omega) hk]; rfl
    · rw [if_neg (by decide), show M 81 k = w0 N B 6 k from c 6 k (by omega) (by omega) hk]; rfl
  · rw [if_neg q, if_neg q]
theorem m_count (h : Bs N B m) {v : Int32} : MR S 172 [some (.ref 73), some (.int v)] m (.int (aCount N B (m 73 37) v)) := by
  unfold aCount
  by_cases q : nI 0 ≤ v ∧ v < nI 9
  · obtain ⟨k, hk, rfl⟩ := P_nI q (by decide)
    rw [if_pos q, nI_cl8 (by omega)]
    have u0 := (h.1 0 (by decide)).2.1
    have u1 := (h.1 1 (by decide)).2.1
    have u2 := (h.1 2 (by decide)).2.1
    have s7 := h.2.2.2.2.1.1
    have B0 : inB (nI 0) 3 = true := by decide
    have B1 : inB (nI 1) 3 = true := by decide
    have B2 : inB (nI 2) 3 = true := by decide
    have c0 : (nI 0).toNatClampNeg = 0 := nI_cl8 (by omega)
    have c1 : (nI 1).toNatClampNeg = 1 := nI_cl8 (by omega)
    have c2 : (nI 2).toNatClampNeg = 2 := nI_cl8 (by omega)
    have d3 : nI 3 - nI 3 = nI 0 := by decide
    have d4 : nI 4 - nI 3 = nI 1 := by decide
    have d5 : nI 5 - nI 3 = nI 2 := by decide
    rcases (show k = 0 ∨ k = 1 ∨ k = 2 ∨ k = 3 ∨ k = 4 ∨ k = 5 ∨ k = 6 ∨ k = 7 ∨ k = 8 by omega) with rfl | rfl | rfl | rfl | rfl | rfl | rfl | rfl | rfl
    · obtain ⟨M2, k2, _, e⟩ := q_sumOf (S := S) h (v := 0) (by omega)
      exact ⟨M2, k2, fun f Rt => by simp only [u172_0, u172_1, u172_1v1, u172_1v2, u172_1v3, u172_1v4, u172_1v5, u172_1v6, u172_1v7, u172_1v8, u172_1v9, u172_52, u172_53, u172_54, u172_57, u172_58, u172_59, u172_62, u172_63, u172_64, u172_65, u172_66, u172_67, u172_68, u172_71, u172_72, u172_73, u172_76, u172_77, u172_79, e, pu_some, pu_none]; rfl⟩
    · obtain ⟨M2, k2, _, e⟩ := q_sumOf (S := S) h (v := 1) (by omega)
      exact ⟨M2, k2, fun f Rt => by simp only [u172_0, u172_1, u172_1v1, u172_1v2, u172_1v3, u172_1v4, u172_1v5, u172_1v6, u172_1v7, u172_1v8, u172_1v9, u172_52, u172_53, u172_54, u172_57, u172_58, u172_59, u172_62, u172_63, u172_64, u172_65, u172_66, u172_67, u172_68, u172_71, u172_72, u172_73, u172_76, u172_77, u172_79, e, pu_some, pu_none]; rfl⟩
    · obtain ⟨M2, k2, _, e⟩ := q_sumOf (S := S) h (v := 2) (by omega)
      exact ⟨M2, k2, fun f Rt => by simp only [u172_0, u172_1, u172_1v1, u172_1v2, u172_1v3, u172_1v4, u172_1v5, u172_1v6, u172_1v7, u172_1v8, u172_1v9, u172_52, u172_53, u172_54, u172_57, u172_58, u172_59, u172_62, u172_63, u172_64, u172_65, u172_66, u172_67, u172_68, u172_71, u172_72, u172_73, u172_76, u172_77, u172_79, e, pu_some, pu_none]; rfl⟩
    · exact MR_same (fun f Rt => by simp only [u172_0, u172_1, u172_1v1, u172_1v2, u172_1v3, u172_1v4, u172_1v5, u172_1v6, u172_1v7, u172_1v8, u172_1v9, u172_52, u172_53, u172_54, u172_57, u172_58, u172_59, u172_62, u172_63, u172_64, u172_65, u172_66, u172_67, u172_68, u172_71, u172_72, u172_73, u172_76, u172_77, u172_79, d3, B0, c0, true_and, u0]; rfl)
    · exact MR_same (fun f Rt => by simp only [u172_0, u172_1, u172_1v1, u172_1v2, u172_1v3, u172_1v4, u172_1v5, u172_1v6, u172_1v7, u172_1v8, u172_1v9, u172_52, u172_53, u172_54, u172_57, u172_58, u172_59, u172_62, u172_63, u172_64, u172_65, u172_66, u172_67, u172_68, u172_71, u172_72, u172_73, u172_76, u172_77, u172_79, d4, B1, c1, true_and, u1]; rfl)
    · exact MR_same (fun f Rt => by simp only [u172_0, u172_1, u172_1v1, u172_1v2, u172_1v3, u172_1v4, u172_1v5, u172_1v6, u172_1v7, u172_1v8, u172_1v9, u172_52, u172_53, u172_54, u172_57, u172_58, u172_59, u172_62, u172_63, u172_64, u172_65, u172_66, u172_67, u172_68, u172_71, u172_72, u172_73, u172_76, u172_77, u172_79, d5, B2, c2, true_and, u2]; rfl)
    · obtain ⟨M2, k2, _, e⟩ := q_sumOf (S := S) h (v := 6) (by omega)
      exact ⟨M2, k2, fun f Rt => by simp only [u172_0, u172_1, u172_1v1, u172_1v2, u172_1v3, u172_1v4, u172_1v5, u172_1v6, u172_1v7, u172_1v8, u172_1v9, u172_52, u172_53, u172_54, u172_57, u172_58, u172_59, u172_62, u172_63, u172_64, u172_65, u172_66, u172_67, u172_68, u172_71, u172_72, u172_73, u172_76, u172_77, u172_79, e, pu_some, pu_none]; rfl⟩
    · exact MR_same (fun f Rt => by simp only [u172_0, u172_1, u172_1v1, u172_1v2, u172_1v3, u172_1v4, u172_1v5, u172_1v6, u172_1v7, u172_1v8, u172_1v9, u172_52, u172_53, u172_54, u172_57, u172_58, u172_59, u172_62, u172_63, u172_64, u172_65, u172_66, u172_67, u172_68, u172_71, u172_72, u172_73, u172_76, u172_77, u172_79, s7]; rfl)
    · exact MR_same (fun f Rt => by simp only [u172_0, u172_1, u172_1v1, u172_1v2, u172_1v3, u172_1v4, u172_1v5, u172_1v6, u172_1v7, u172_1v8, u172_1v9, u172_52, u172_53, u172_54, u172_57, u172_58, u172_59, u172_62, u172_63, u172_64, u172_65, u172_66, u172_67, u172_68, u172_71, u172_72, u172_73, u172_76, u172_77, u172_79]; rfl)
  · rw [if_neg q]
    refine MR_same (fun f Rt => ?_)
    have hx : v.toInt < 0 ∨ 8 < v.toInt := by
      rw [fa2_le, fa2_lt, nI_toI (by omega), nI_toI (by omega)] at q
      omega
    simp (disch := exact hx) only [u172_0, u172_1, u172_1v1, u172_1v2, u172_1v3, u172_1v4, u172_1v5, u172_1v6, u172_1v7, u172_1v8, u172_1v9, u172_52, u172_53, u172_54, u172_57, u172_58, u172_59, u172_62, u172_63, u172_64, u172_65, u172_66, u172_67, u172_68, u172_71, u172_72, u172_73, u172_76, u172_77, u172_79]
end MPB
