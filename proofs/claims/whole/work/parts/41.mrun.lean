section MRUN
variable {S : AScr} {f : Nat} {m M : AMem} {Rt : Option Value → AMem → Prop} {men inns fleet : Nat} {lo ti nd : Nat → Nat}
def mRunM (men fleet z : Nat) (m : AMem) : AMem := it (z + 1) (goesM men fleet) (mBegM men m)
theorem mb2_it {s a : Nat} (ha : a = 90 ∨ a = 91 ∨ a = 92) : ∀ (n : Nat) (m : AMem), s < n → it n mb2 m a s = nI 0 := by
  intro n
  induction n with
  | zero => intro m h; omega
  | succ n ih =>
    intro m h
    rw [it_s]
    unfold mb2
    simp only [up_ap]
    by_cases q : s = n
    · subst q
      rcases ha with rfl | rfl | rfl <;> simp
    · rw [if_neg (by omega), if_neg (by omega), if_neg (by omega)]
      exact ih m (by omega)
theorem mb3_9 {k a : Nat} (ha : a = 90 ∨ a = 91 ∨ a = 92) : mb3 k m a = m a := by
  unfold mb3
  rw [up_row (by omega), up_row (by omega), up_row (by omega), up_row (by omega)]
theorem beg_9 {s a : Nat} (hs : s < 6) (ha : a = 90 ∨ a = 91 ∨ a = 92) : mBegM men m a s = nI 0 := by
  unfold mBegM
  rw [it_row (fun k m => mb3_9 ha), up_row (by omega)]
  exact mb2_it ha 6 _ hs
theorem beg_MA (h : MT men inns fleet lo m) (hD : MD fleet ti nd m) : MA men inns fleet lo ti nd 0 0 (mBegM men m) := by
  have hf := h.2.1.2.2
  refine ⟨MT_beg h, MD_keep hD (mBeg_row (by omega)) (mBeg_row (by omega)), fun s hs _ => ⟨beg_9 (by omega) (by omega), beg_9 (by omega) (by omega)⟩⟩
theorem s_mRuns (h : MT men inns fleet lo m) (hD : MD fleet ti nd m) {z : Nat} (hz : z < 90) : T S (f + 5) 115 0 [some (.ref 73), some (.int (nI z)), none] [] m Rt = Rt none (mRunM men fleet z m) := by
  have nx : ∀ d, d < z + 1 → ∀ m, MA men inns fleet lo ti nd d 0 m → MA men inns fleet lo ti nd (d + 1) 0 (goesM men fleet d m) := fun d _ m hm => goes_MA hm
  have e := it_run (fun d (m : AMem) => T S (f + 5) 115 6 [some (.ref 73), some (.int (nI z)), some (.int (nI d))] [] m Rt) (goesM men fleet) (fun d m => MA men inns fleet lo ti nd d 0 m) (z + 1) nx (fun d hd m hm => by
    have hlt : (nI z < nI d) = False := by rw [nI_lt8 (by omega) (by omega)]; exact eq_false (by omega)
    have hd2 : d < 100 := by omega
    refine u115_6.trans ?_
    simp only [u115_0, u115_1, u115_4, u115_5, u115_7, u115_8, u115_11, u115_12, u115_13, u115_16, u115_19, u115_22, hlt, if_false, s_mGoes hd2 hm, pu_some, pu_none, nI_add]) (mBegM men m) (beg_MA h hD)
  have hlt : (nI z < nI (z + 1)) = True := by rw [nI_lt8 (by omega) (by omega)]; exact eq_true (by omega)
  refine Eq.trans ?_ (e.trans ?_)
  · simp only [u115_0, u115_1, u115_4, u115_5, u115_7, u115_8, u115_11, u115_12, u115_13, u115_16, u115_19, u115_22, s_mBegins h, pu_some, pu_none]
  · refine u115_6.trans ?_
    simp only [u115_0, u115_1, u115_4, u115_5, u115_7, u115_8, u115_11, u115_12, u115_13, u115_16, u115_19, u115_22, hlt, if_true]
    rfl
theorem run_row {z a : Nat} (h : a ≠ 73 ∧ (a < 86 ∨ 93 < a)) : mRunM men fleet z m a = m a := by
  unfold mRunM
  rw [it_row (fun k m => goes_row (by omega)), mBeg_row (by omega)]
theorem run_73 {z j : Nat} (h : j ≠ 24) : mRunM men fleet z m 73 j = m 73 j := by
  unfold mRunM
  rw [it_cell (fun k m => goes_73 h), mBeg_73 h]
theorem MT_run (h : MT men inns fleet lo m) {z : Nat} : MT men inns fleet lo (mRunM men fleet z m) := MT_keep h (fun j _ => run_73 (by omega)) (run_row (by omega))
theorem MD_run (h : MD fleet ti nd m) {men z : Nat} : MD fleet ti nd (mRunM men fleet z m) := MD_keep h (run_row (by omega)) (run_row (by omega))
/-- reading the texts gives the memory M -/
def Rd (S : AScr) (m M : AMem) : Prop := ∀ (f : Nat) (Rt : Option Value → AMem → Prop), T S (f + 6) 103 0 [some (.ref 73), none] [] m Rt = Rt none M
theorem Rd_e (hR : Rd S m M) : T S (f + 6) 103 0 [some (.ref 73), none] [] m Rt = Rt none M := hR f Rt
/-- the month as it is told, to a day -/
def toldM (men fleet z : Nat) (M : AMem) : AMem := mRunM men fleet z (up M 73 16 (nI 0))
theorem s_mTold (hR : Rd S m M) (h : MT men inns fleet lo M) (hD : MD fleet ti nd M) {z : Nat} (hz : z < 90) : T S (f + 7) 114 0 [some (.ref 73), some (.int (nI z))] [] m Rt = Rt none (toldM men fleet z M) := by
  have h2 : MT men inns fleet lo (up M 73 16 (nI 0)) := MT_up h (by omega) (by omega)
  have hD2 : MD fleet ti nd (up M 73 16 (nI 0)) := MD_keep hD (up_row (by omega)) (up_row (by omega))
  simp only [u114_0, u114_1, u114_4, u114_5, u114_6, u114_9, u114_10, u114_11, u114_14, Rd_e hR, s_mRuns h2 hD2 hz, pu_some, pu_none]
  rfl
theorem in_sub {x : Int32} {n : Nat} (hn : n ≤ 60) : (nI 0 ≤ x ∧ x ≤ nI n - nI 1) = (nI 0 ≤ x ∧ x < nI n) := by
  have e : (nI n - nI 1).toInt = (n : Int) - 1 := by
    rw [Int32.toInt_sub, nI_toI (by omega), nI_toI (by omega), Int.bmod_def]
    omega
  rw [fa2_le (nI 0), fa2_le x, fa2_lt, e, nI_toI (by omega), nI_toI (by omega)]
  exact propext ⟨fun h => ⟨h.1, by omega⟩, fun h => ⟨h.1, by omega⟩⟩
theorem s_mIsSailor (hR : Rd S m M) (h : MT men inns fleet lo M) {x : Int32} : T S (f + 7) 102 0 [some (.ref 73), some (.int x)] [] m Rt = Rt (some (.int (b01 (nI 0 ≤ x ∧ x < nI men)))) M := by
  have hb := h.2.1.1
  have e := in_sub (x := x) (n := men) (by omega)
  simp only [u102_0, u102_1, u102_4, u102_5, u102_6, u102_7, u102_10, u102_11, u102_12, u102_15, Rd_e hR, pu_some, pu_none, h.1.1, s_mIn, e, nar_b01, true_and]
theorem s_mIsHouse (hR : Rd S m M) (h : MT men inns fleet lo M) {x : Int32} : T S (f + 7) 106 0 [some (.ref 73), some (.int x)] [] m Rt = Rt (some (.int (b01 (nI 0 ≤ x ∧ x < nI inns)))) M := by
  have hb := h.2.1.2.1
  have e := in_sub (x := x) (n := inns) (by omega)
  simp only [u106_0, u106_1, u106_4, u106_5, u106_6, u106_7, u106_10, u106_11, u106_12, u106_15, Rd_e hR, pu_some, pu_none, h.1.2.1, s_mIn, e, nar_b01, true_and]
theorem s_mIsShip (hR : Rd S m M) (h : MT men inns fleet lo M) {x : Int32} : T S (f + 7) 108 0 [some (.ref 73), some (.int x)] [] m Rt = Rt (some (.int (b01 (nI 0 ≤ x ∧ x < nI fleet)))) M := by
  have hb := h.2.1.2.2
  have e := in_sub (x := x) (n := fleet) (by omega)
  simp only [u108_0, u108_1, u108_4, u108_5, u108_6, u108_7, u108_10, u108_11, u108_12, u108_15, Rd_e hR, pu_some, pu_none, h.1.2.2, s_mIn, e, nar_b01, true_and]
def msailorOfV (k : Nat) (w : Int32) (m : AMem) : Int32 := if w = nI 0 then m 76 k else if w = nI 1 then m 77 k else if w = nI 2 then m 78 k else m 79 k
theorem s_msailorOf {k : Nat} (hk : k < 9) {w : Int32} : T S (f + 1) 104 0 [some (.ref 73), some (.int (nI k)), some (.int w)] [] m Rt = Rt (some (.int (msailorOfV k w m))) m := by
  unfold msailorOfV
  have hB : inB (nI k) 9 = true := inB8 (by omega) (by decide)
  have hc : (nI k).toNatClampNeg = k := nI_cl8 (by omega)
  by_cases w0 : w = nI 0
  · simp only [u104_0, u104_1, u104_4, u104_5, u104_8, u104_9, u104_10, u104_13, u104_14, u104_15, u104_18, u104_19, u104_22, u104_23, u104_24, u104_27, u104_28, u104_29, u104_32, u104_33, u104_36, u104_37, u104_38, u104_41, u104_42, u104_45, u104_46, u104_47, w0, if_true, hB, hc, true_and]
  by_cases w1 : w = nI 1
  · simp only [u104_0, u104_1, u104_4, u104_5, u104_8, u104_9, u104_10, u104_13, u104_14, u104_15, u104_18, u104_19, u104_22, u104_23, u104_24, u104_27, u104_28, u104_29, u104_32, u104_33, u104_36, u104_37, u104_38, u104_41, u104_42, u104_45, u104_46, u104_47, w0, w1, if_true, if_false, hB, hc, true_and, show ¬ nI 1 = nI 0 by decide]
  by_cases w2 : w = nI 2
  · simp only [u104_0, u104_1, u104_4, u104_5, u104_8, u104_9, u104_10, u104_13, u104_14, u104_15, u104_18, u104_19, u104_22, u104_23, u104_24, u104_27, u104_28, u104_29, u104_32, u104_33, u104_36, u104_37, u104_38, u104_41, u104_42, u104_45, u104_46, u104_47, w0, w1, w2, if_true, if_false, hB, hc, true_and, show ¬ nI 2 = nI 0 by decide, show ¬ nI 2 = nI 1 by decide]
  simp only [u104_0, u104_1, u104_4, u104_5, u104_8, u104_9, u104_10, u104_13, u104_14, u104_15, u104_18, u104_19, u104_22, u104_23, u104_24, u104_27, u104_28, u104_29, u104_32, u104_33, u104_36, u104_37, u104_38, u104_41, u104_42, u104_45, u104_46, u104_47, w0, w1, w2, if_false, hB, hc, true_and]
def mshipOfV (k : Nat) (w : Int32) (m : AMem) : Int32 := if w = nI 0 then m 82 k else if w = nI 1 then m 83 k else if w = nI 2 then m 84 k else m 85 k
theorem s_mshipOf {k : Nat} (hk : k < 7) {w : Int32} : T S (f + 1) 109 0 [some (.ref 73), some (.int (nI k)), some (.int w)] [] m Rt = Rt (some (.int (mshipOfV k w m))) m := by
  unfold mshipOfV
  have hB : inB (nI k) 7 = true := inB8 (by omega) (by decide)
  have hc : (nI k).toNatClampNeg = k := nI_cl8 (by omega)
  by_cases w0 : w = nI 0
  · simp only [u109_0, u109_1, u109_4, u109_5, u109_8, u109_9, u109_10, u109_13, u109_14, u109_15, u109_18, u109_19, u109_22, u109_23, u109_24, u109_27, u109_28, u109_29, u109_32, u109_33, u109_36, u109_37, u109_38, u109_41, u109_42, u109_45, u109_46, u109_47, w0, if_true, hB, hc, true_and]
  by_cases w1 : w = nI 1
  · simp only [u109_0, u109_1, u109_4, u109_5, u109_8, u109_9, u109_10, u109_13, u109_14, u109_15, u109_18, u109_19, u109_22, u109_23, u109_24, u109_27, u109_28, u109_29, u109_32, u109_33, u109_36, u109_37, u109_38, u109_41, u109_42, u109_45, u109_46, u109_47, w0, w1, if_true, if_false, hB, hc, true_and, show ¬ nI 1 = nI 0 by decide]
  by_cases w2 : w = nI 2
  · simp only [u109_0, u109_1, u109_4, u109_5, u109_8, u109_9, u109_10, u109_13, u109_14, u109_15, u109_18, u109_19, u109_22, u109_23, u109_24, u109_27, u109_28, u109_29, u109_32, u109_33, u109_36, u109_37, u109_38, u109_41, u109_42, u109_45, u109_46, u109_47, w0, w1, w2, if_true, if_false, hB, hc, true_and, show ¬ nI 2 = nI 0 by decide, show ¬ nI 2 = nI 1 by decide]
  simp only [u109_0, u109_1, u109_4, u109_5, u109_8, u109_9, u109_10, u109_13, u109_14, u109_15, u109_18, u109_19, u109_22, u109_23, u109_24, u109_27, u109_28, u109_29, u109_32, u109_33, u109_36, u109_37, u109_38, u109_41, u109_42, u109_45, u109_46, u109_47, w0, w1, w2, if_false, hB, hc, true_and]
theorem s_msailor (hR : Rd S m M) (h : MT men inns fleet lo M) {x w : Int32} : T S (f + 8) 101 0 [some (.ref 73), some (.int x), some (.int w)] [] m Rt = Rt (some (.int (if (nI 0 ≤ x ∧ x < nI men) ∧ (nI 0 ≤ w ∧ w < nI 4) then msailorOfV x.toNatClampNeg w M else -2))) M := by
  have hb := h.2.1.1
  by_cases hx : nI 0 ≤ x ∧ x < nI men
  · obtain ⟨k, hk, rfl⟩ := P_nI hx (by omega)
    have hk2 : k < 9 := by omega
    have hc : (nI k).toNatClampNeg = k := nI_cl8 (by omega)
    have e3 : (w ≤ nI 3) = (w < nI 4) := le_lt1 (by decide)
    by_cases hw : nI 0 ≤ w ∧ w < nI 4
    · simp only [u101_0, u101_1, u101_2, u101_5, u101_8, u101_9, u101_10, u101_11, u101_14, u101_17, u101_18, u101_19, u101_20, u101_23, u101_26, u101_28, s_mIsSailor hR h, s_mIn, pu_some, pu_none, b01_e0, hx, e3, hw, and_self, not_true, if_false, if_true, s_msailorOf hk2, hc]
    · simp only [u101_0, u101_1, u101_2, u101_5, u101_8, u101_9, u101_10, u101_11, u101_14, u101_17, u101_18, u101_19, u101_20, u101_23, u101_26, u101_28, s_mIsSailor hR h, s_mIn, pu_some, pu_none, b01_e0, hx, e3, hw, and_self, and_false, not_true, not_false_iff, if_false, if_true]
  · simp only [u101_0, u101_1, u101_2, u101_5, u101_8, u101_9, u101_10, u101_11, u101_14, u101_17, u101_18, u101_19, u101_20, u101_23, u101_26, u101_28, s_mIsSailor hR h, pu_some, pu_none, b01_e0, hx, false_and, not_false_iff, if_true, if_false]
theorem s_mship (hR : Rd S m M) (h : MT men inns fleet lo M) {x w : Int32} : T S (f + 8) 107 0 [some (.ref 73), some (.int x), some (.int w)] [] m Rt = Rt (some (.int (if (nI 0 ≤ x ∧ x < nI fleet) ∧ (nI 0 ≤ w ∧ w < nI 4) then mshipOfV x.toNatClampNeg w M else -2))) M := by
  have hb := h.2.1.2.2
  by_cases hx : nI 0 ≤ x ∧ x < nI fleet
  · obtain ⟨k, hk, rfl⟩ := P_nI hx (by omega)
    have hk2 : k < 7 := by omega
    have hc : (nI k).toNatClampNeg = k := nI_cl8 (by omega)
    have e3 : (w ≤ nI 3) = (w < nI 4) := le_lt1 (by decide)
    by_cases hw : nI 0 ≤ w ∧ w < nI 4
    · simp only [u107_0, u107_1, u107_2, u107_5, u107_8, u107_9, u107_10, u107_11, u107_14, u107_17, u107_18, u107_19, u107_20, u107_23, u107_26, u107_28, s_mIsShip hR h, s_mIn, pu_some, pu_none, b01_e0, hx, e3, hw, and_self, not_true, if_false, if_true, s_mshipOf hk2, hc]
    · simp only [u107_0, u107_1, u107_2, u107_5, u107_8, u107_9, u107_10, u107_11, u107_14, u107_17, u107_18, u107_19, u107_20, u107_23, u107_26, u107_28, s_mIsShip hR h, s_mIn, pu_some, pu_none, b01_e0, hx, e3, hw, and_self, and_false, not_true, not_false_iff, if_false, if_true]
  · simp only [u107_0, u107_1, u107_2, u107_5, u107_8, u107_9, u107_10, u107_11, u107_14, u107_17, u107_18, u107_19, u107_20, u107_23, u107_26, u107_28, s_mIsShip hR h, pu_some, pu_none, b01_e0, hx, false_and, not_false_iff, if_true, if_false]
theorem s_mHouse (hR : Rd S m M) (h : MT men inns fleet lo M) {x w : Int32} : T S (f + 8) 105 0 [some (.ref 73), some (.int x), some (.int w)] [] m Rt = Rt (some (.int (if (nI 0 ≤ x ∧ x < nI inns) ∧ (nI 0 ≤ w ∧ w < nI 2) then (if w = nI 0 then M 80 x.toNatClampNeg else M 81 x.toNatClampNeg) else -2))) M := by
  have hb := h.2.1.2.1
  by_cases hx : nI 0 ≤ x ∧ x < nI inns
  · obtain ⟨k, hk, rfl⟩ := P_nI hx (by omega)
    have hB : inB (nI k) 9 = true := inB8 (by omega) (by decide)
    have hc : (nI k).toNatClampNeg = k := nI_cl8 (by omega)
    have e3 : (w ≤ nI 1) = (w < nI 2) := le_lt1 (by decide)
    by_cases hw : nI 0 ≤ w ∧ w < nI 2
    · have hwt : (nI 0 ≤ w ∧ w < nI 2) = True := eq_true hw
      by_cases w0 : w = nI 0
      · subst w0
        simp only [u105_0, u105_1, u105_2, u105_5, u105_8, u105_9, u105_10, u105_11, u105_14, u105_17, u105_18, u105_21, u105_22, u105_25, u105_26, u105_27, u105_30, u105_31, u105_34, u105_35, u105_36, u105_39, u105_41, s_mIsHouse hR h, s_mIn, pu_some, pu_none, b01_e0, hx, e3, hwt, and_self, not_true, if_false, if_true, hB, hc, true_and]
      · simp only [u105_0, u105_1, u105_2, u105_5, u105_8, u105_9, u105_10, u105_11, u105_14, u105_17, u105_18, u105_21, u105_22, u105_25, u105_26, u105_27, u105_30, u105_31, u105_34, u105_35, u105_36, u105_39, u105_41, s_mIsHouse hR h, s_mIn, pu_some, pu_none, b01_e0, hx, e3, hwt, and_self, not_true, if_false, if_true, hB, hc, true_and, w0]
    · simp only [u105_0, u105_1, u105_2, u105_5, u105_8, u105_9, u105_10, u105_11, u105_14, u105_17, u105_18, u105_21, u105_22, u105_25, u105_26, u105_27, u105_30, u105_31, u105_34, u105_35, u105_36, u105_39, u105_41, s_mIsHouse hR h, s_mIn, pu_some, pu_none, b01_e0, hx, e3, hw, and_self, and_false, not_true, not_false_iff, if_false, if_true]
  · simp only [u105_0, u105_1, u105_2, u105_5, u105_8, u105_9, u105_10, u105_11, u105_14, u105_17, u105_18, u105_21, u105_22, u105_25, u105_26, u105_27, u105_30, u105_31, u105_34, u105_35, u105_36, u105_39, u105_41, s_mIsHouse hR h, pu_some, pu_none, b01_e0, hx, false_and, not_false_iff, if_true, if_false]
theorem s_mCap {x : Int32} : T S (f + 2) 110 0 [some (.ref 73), some (.int x), none] [] m Rt = if nI 0 ≤ x ∧ x < nI 10 then Rt (some (.int (m 73 15))) (up m 73 15 x) else Rt (some (.int (-2))) m := by
  have e : (x ≤ nI 9) = (x < nI 10) := le_lt1 (by decide)
  by_cases q : nI 0 ≤ x ∧ x < nI 10
  · simp only [u110_0, u110_1, u110_2, u110_4, u110_7, u110_10, u110_12, u110_13, u110_14, u110_17, u110_18, u110_19, u110_20, u110_23, u110_24, s_mIn, pu_some, pu_none, b01_e0, e, q, and_self, not_true, if_false, if_true]
  · simp only [u110_0, u110_1, u110_2, u110_4, u110_7, u110_10, u110_12, u110_13, u110_14, u110_17, u110_18, u110_19, u110_20, u110_23, u110_24, s_mIn, pu_some, pu_none, b01_e0, e, q, not_false_iff, if_true, if_false]
end MRUN
