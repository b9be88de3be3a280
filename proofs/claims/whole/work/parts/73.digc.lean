section DGC
variable {S : AScr} {m m2 m3 M X : AMem} {N : Nat → Nat} {B : Nat → Nat → Nat}
def mx (h x : Int64) : Int64 := 31 * h + x
theorem s_mix {h x : Int64} {f : Nat} {Rt : Option Value → AMem → Prop} : T S (f + 1) 82 0 [some (.long h), none, some (.long x), none] [] m Rt = Rt (some (.long (mx h x))) m := by
  simp only [u82_0, u82_3, u82_4, u82_5, u82_6, u82_7]
  rfl
def rowD (N : Nat → Nat) (B : Nat → Nat → Nat) (r0 n k : Nat) (h : Int64) : Int64 := it n (fun w g => mx g (w0 N B (r0 + w) k).toInt64) h
def sd1 (N : Nat → Nat) (B : Nat → Nat → Nat) (h : Int64) (k : Nat) : Int64 := mx (mx (mx (mx (mx (rowD N B 1 4 k h) (RR N B (w0 N B) 9 86 k).toInt64) (RR N B (w0 N B) 29 86 k).toInt64) (RR N B (w0 N B) 9 87 k).toInt64) (RR N B (w0 N B) 9 88 k).toInt64) (RR N B (w0 N B) 29 88 k).toInt64
def sd2 (N : Nat → Nat) (B : Nat → Nat → Nat) (h : Int64) (k : Nat) : Int64 := mx (mx (mx (mx (mx (mx (mx (mx h (loA (loP N B k) (nI 0)).toInt64) (loA (loP N B k) (nI 1)).toInt64) (leV (-1) (leN (stL N B k) (fN N B))).toInt64) (leV (nI 0) (leN (stL N B k) (fN N B))).toInt64) (wasQ N B k (nI 0)).toInt64) (wasQ N B k (nI 1)).toInt64) (stA N B 5 k 20 (nI 0))) (stA N B 5 k 20 (nI 1))
def hd1 (N : Nat → Nat) (B : Nat → Nat → Nat) (h : Int64) (k : Nat) : Int64 := mx (mx (mx (mx (mx (mx (mx (mx (mx h (w0 N B 5 k).toInt64) (w0 N B 6 k).toInt64) (RR N B (w0 N B) 9 89 k).toInt64) (dueP (mN N B) (nI k) (RR N B (w0 N B) 9)).toInt64) (RR N B (w0 N B) 29 89 k).toInt64) (dueP (mN N B) (nI k) (RR N B (w0 N B) 29)).toInt64) (optI (prP N B k).1).toInt64) (prP N B k).2.toInt64) (poA N B (nI 7) (nI k)).toInt64
def fd1 (N : Nat → Nat) (B : Nat → Nat → Nat) (h : Int64) (k : Nat) : Int64 := mx (it 5 (fun w g => mx g (crP N B k (nI w)).toInt64) (rowD N B 7 4 k h)) (optI (lkP N B k 10 0)).toInt64
def dg1 (N : Nat → Nat) (B : Nat → Nat → Nat) : Int64 := it (fN N B) (fun k h => fd1 N B h k) (it (iN N B) (fun k h => hd1 N B h k) (it (mN N B) (fun k h => sd2 N B (sd1 N B h k) k) (it 3 (fun t h => mx h (optI (ffN t (N t) (B t))).toInt64) (it 8 (fun w h => mx h (aCount N B 0 (nI w)).toInt64) 17))))
def dg2 (N : Nat → Nat) (B : Nat → Nat → Nat) : Int64 := mx (mx (mx (mx (mx (mx (mx (dg1 N B) (optI (ricP (iN N B) (RR N B (w0 N B) 9))).toInt64) (optI (ricP (iN N B) (RR N B (w0 N B) 29))).toInt64) (RR N B (w0 N B) 29 73 24).toInt64) (nevP N B).toInt64) (optI (akP (nevP N B) (iN N B) (fN N B) (tkV N B 9)).1).toInt64) (optI (akP (nevP N B) (iN N B) (fN N B) (tkV N B 29)).1).toInt64) (poA N B (nI 7) (-1)).toInt64
theorem v_owes {z k row : Nat} (hz : z < 30) (hk : k < mN N B) (h8 : mN N B ≤ 8) : aOwes N B (nI z) (nI k) row = RR N B (w0 N B) z row k := by
  unfold aOwes
  rw [if_pos ⟨nI_P hz (by decide), nI_P hk (by omega)⟩, nI_cl8 (by omega), nI_cl8 (by omega)]
theorem v_takes0 {z k : Nat} (hz : z < 30) (hk : k < iN N B) (h8 : iN N B ≤ 8) : aTakes N B (nI z) (nI k) (nI 0) = RR N B (w0 N B) z 89 k := by
  unfold aTakes
  rw [if_pos ⟨nI_P hz (by decide), nI_P hk (by omega)⟩, nI_cl8 (by omega), nI_cl8 (by omega), if_pos rfl]
theorem v_takes1 {z k : Nat} (hz : z < 30) (hk : k < iN N B) (h8 : iN N B ≤ 8) : aTakes N B (nI z) (nI k) (nI 1) = dueP (mN N B) (nI k) (RR N B (w0 N B) z) := by
  unfold aTakes
  rw [if_pos ⟨nI_P hz (by decide), nI_P hk (by omega)⟩, nI_cl8 (by omega), if_neg (show ¬ nI 1 = nI 0 by decide), if_pos rfl]
theorem v_lodge {k v : Nat} (hk : k < mN N B) (h8 : mN N B ≤ 8) (hv : v < 2) : aLodge N B (nI k) (nI v) = loA (loP N B k) (nI v) := by
  unfold aLodge
  rw [if_pos ⟨nI_P hk (by omega), nI_P hv (by decide)⟩, nI_cl8 (by omega)]
theorem v_leave0 {k : Nat} (hk : k < mN N B) (h8 : mN N B ≤ 8) : aLeave N B (nI k) (nI 0) = leV (nI 0) (leN (stL N B k) (fN N B)) := by
  unfold aLeave
  rw [if_pos ⟨nI_P hk (by omega), by decide, by decide⟩, nI_cl8 (by omega)]
theorem v_leaveN {k : Nat} (hk : k < mN N B) (h8 : mN N B ≤ 8) : aLeave N B (nI k) (-1) = leV (-1) (leN (stL N B k) (fN N B)) := by
  unfold aLeave
  rw [if_pos ⟨nI_P hk (by omega), by decide, by decide⟩, nI_cl8 (by omega)]
theorem v_was {k v : Nat} (hk : k < mN N B) (h8 : mN N B ≤ 8) (hv : v < 2) : aWas N B (nI k) (nI v) = wasQ N B k (nI v) := by
  unfold aWas
  rw [if_pos ⟨nI_P hk (by omega), nI_P hv (by decide)⟩, nI_cl8 (by omega)]
theorem v_storm {k v : Nat} (hk : k < mN N B) (h8 : mN N B ≤ 8) (hv : v < 2) : aStorm N B (nI 5) (nI k) (nI 20) (nI v) = stA N B 5 k 20 (nI v) := by
  unfold aStorm
  rw [if_pos ⟨by decide, nI_P hk (by omega), by decide, nI_P hv (by decide)⟩, nI_cl8 (by omega), nI_cl8 (by omega), nI_cl8 (by omega)]
theorem v_row {n r0 many k v : Nat} (hk : k < n) (hn : n ≤ 8) (hv : v < many) (hm : many ≤ 8) : aRow N B n r0 many (nI k) (nI v) = w0 N B (r0 + v) k := by
  unfold aRow
  rw [if_pos ⟨nI_P hk (by omega), nI_P hv (by omega)⟩, nI_cl8 (by omega), nI_cl8 (by omega)]
theorem v_price0 {k : Nat} (hk : k < iN N B) (h8 : iN N B ≤ 8) : aPrice N B (nI k) (nI 0) = optI (prP N B k).1 := by
  unfold aPrice
  rw [if_pos ⟨nI_P hk (by omega), by decide⟩, nI_cl8 (by omega), if_pos rfl]
theorem v_price1 {k : Nat} (hk : k < iN N B) (h8 : iN N B ≤ 8) : aPrice N B (nI k) (nI 1) = (prP N B k).2 := by
  unfold aPrice
  rw [if_pos ⟨nI_P hk (by omega), by decide⟩, nI_cl8 (by omega), if_neg (show ¬ nI 1 = nI 0 by decide)]
theorem v_port {k : Nat} (hk : k < iN N B) (h8 : iN N B ≤ 8) : aPort N B (nI 7) (nI k) = poA N B (nI 7) (nI k) := by
  unfold aPort
  rw [if_pos (Or.inr (nI_P hk (by omega)))]
theorem v_portN : aPort N B (nI 7) (-1) = poA N B (nI 7) (-1) := by
  unfold aPort
  rw [if_pos (Or.inl rfl)]
theorem v_crew {k v : Nat} (hk : k < fN N B) (h8 : fN N B ≤ 6) (hv : v < 5) : aCrew N B (nI k) (nI v) = crP N B k (nI v) := by
  unfold aCrew
  rw [if_pos ⟨nI_P hk (by omega), nI_P hv (by decide)⟩, nI_cl8 (by omega)]
theorem v_look {k : Nat} (hk : k < fN N B) (h8 : fN N B ≤ 6) : aLook N B (nI k) = optI (lkP N B k 10 0) := by
  unfold aLook
  rw [if_pos (nI_P hk (by omega)), nI_cl8 (by omega)]
theorem v_rich {z : Nat} (hz : z < 30) : aRich N B (nI z) = optI (ricP (iN N B) (RR N B (w0 N B) z)) := by
  unfold aRich
  rw [if_pos (nI_P hz (by decide)), nI_cl8 (by omega)]
theorem v_ask {z : Nat} (hz : z < 30) : aAsk N B (nI z) = optI (akP (nevP N B) (iN N B) (fN N B) (tkV N B z)).1 := by
  unfold aAsk
  rw [if_pos (nI_P hz (by decide)), nI_cl8 (by omega)]
theorem v_fault {t : Nat} (ht : t < 3) : aFault N B (nI t) = optI (ffN t (N t) (B t)) := by
  unfold aFault
  rw [if_pos (nI_P ht (by decide)), nI_cl8 (by omega)]
theorem v_count {v : Nat} (hv : v < 8) (fnd : Int32) : aCount N B fnd (nI v) = aCount N B 0 (nI v) := by
  unfold aCount
  rw [if_pos (nI_P (show v < 9 by omega) (by decide)), if_pos (nI_P (show v < 9 by omega) (by decide)), nI_cl8 (by omega)]
  rcases (show v = 0 ∨ v = 1 ∨ v = 2 ∨ v = 3 ∨ v = 4 ∨ v = 5 ∨ v = 6 ∨ v = 7 by omega) with rfl | rfl | rfl | rfl | rfl | rfl | rfl | rfl <;> rfl
/-- keeps what holds between the calls -/
def KA (N : Nat → Nat) (B : Nat → Nat → Nat) (m m2 : AMem) : Prop := Kc m m2 ∧ Ca N B m2
theorem c_mixDays (h : Bs N B m) (hc : Ca N B m) {k : Nat} (hk : k < mN N B) {g : Int64} : ∃ m1, Kc m m1 ∧ Ca N B m1 ∧ ∀ (f : Nat) (Rt : Option Value → AMem → Prop), T S (f + 10) 83 0 [some (.ref 0), some (.long g), none, some (.int (nI k)), none, none, none] [] m Rt = Rt (some (.long (sd1 N B g k))) m1 := by
  have h8 := (Bs_m8 h).1
  obtain ⟨m0, ⟨k0, a0⟩, e0⟩ := it_runE (fun i (s : Int64) (x : AMem) (r : Nat × (Option Value → AMem → Prop)) => T S (r.1 + 10) 83 6 [some (.ref 0), some (.long g), none, some (.int (nI k)), some (.long s), none, some (.int (nI i))] [] x r.2) (fun w g => mx g (w0 N B (1 + w) k).toInt64) (fun _ _ x => Kc m x ∧ Ca N B x) 4 (fun i hi s x ⟨hx1, hx2⟩ => by
    obtain ⟨m1, k1, a1, e1⟩ := c_sailor (S := S) (x := nI k) (v := nI i) (Bs_c h hx1) hx2
    rw [v_row hk h8 hi (by decide)] at e1
    have hle : ¬ 4 ≤ i := by omega
    refine ⟨m1, ⟨Kc_t hx1 k1, a1⟩, fun r => u83_6.trans ?_⟩
    simp (disch := omega) only [u83_0, u83_1, u83_3, u83_4, u83_8, u83_9, u83_12, u83_14, u83_15, u83_16, u83_18, u83_21, u83_22, u83_25, u83_27, u83_30, u83_33, u83_35, u83_36, u83_38, u83_39, u83_42, u83_43, u83_46, u83_47, u83_49, u83_50, u83_53, u83_54, u83_57, u83_59, u83_61, u83_62, u83_64, u83_65, u83_68, u83_69, u83_72, u83_74, u83_76, u83_77, u83_79, u83_80, u83_83, u83_84, u83_87, u83_88, u83_90, u83_91, u83_94, u83_95, u83_98, nI_le8, hle, if_false, e1, s_mix, pu_some, pu_none, nI_add]) g m ⟨Kc_r, hc⟩
  have b0 := Bs_c h k0
  obtain ⟨m1, k1, a1, e1⟩ := c_owes (S := S) (d := nI 9) (x := nI k) b0 a0
  have b1 := Bs_c b0 k1
  rw [v_owes (by decide) hk h8] at e1
  have kk1 := Kc_t k0 k1
  obtain ⟨m2, k2, a2, e2⟩ := c_owes (S := S) (d := nI 29) (x := nI k) b1 a1
  have b2 := Bs_c b1 k2
  rw [v_owes (by decide) hk h8] at e2
  have kk2 := Kc_t kk1 k2
  obtain ⟨m3, k3, a3, e3⟩ := c_purse (S := S) (d := nI 9) (x := nI k) b2 a2
  have b3 := Bs_c b2 k3
  rw [v_owes (by decide) hk h8] at e3
  have kk3 := Kc_t kk2 k3
  obtain ⟨m4, k4, a4, e4⟩ := c_where (S := S) (d := nI 9) (x := nI k) b3 a3
  have b4 := Bs_c b3 k4
  rw [v_owes (by decide) hk h8] at e4
  have kk4 := Kc_t kk3 k4
  obtain ⟨m5, k5, a5, e5⟩ := c_where (S := S) (d := nI 29) (x := nI k) b4 a4
  have b5 := Bs_c b4 k5
  rw [v_owes (by decide) hk h8] at e5
  have kk5 := Kc_t kk4 k5
  refine ⟨m5, kk5, a5, fun f Rt => ?_⟩
  refine Eq.trans ?_ ((e0 (f, Rt)).trans ?_)
  · simp only [u83_0, u83_1, u83_3, u83_4, u83_8, u83_9, u83_12, u83_14, u83_15, u83_16, u83_18, u83_21, u83_22, u83_25, u83_27, u83_30, u83_33, u83_35, u83_36, u83_38, u83_39, u83_42, u83_43, u83_46, u83_47, u83_49, u83_50, u83_53, u83_54, u83_57, u83_59, u83_61, u83_62, u83_64, u83_65, u83_68, u83_69, u83_72, u83_74, u83_76, u83_77, u83_79, u83_80, u83_83, u83_84, u83_87, u83_88, u83_90, u83_91, u83_94, u83_95, u83_98]
  · refine u83_6.trans ?_
    simp (disch := omega) only [u83_0, u83_1, u83_3, u83_4, u83_8, u83_9, u83_12, u83_14, u83_15, u83_16, u83_18, u83_21, u83_22, u83_25, u83_27, u83_30, u83_33, u83_35, u83_36, u83_38, u83_39, u83_42, u83_43, u83_46, u83_47, u83_49, u83_50, u83_53, u83_54, u83_57, u83_59, u83_61, u83_62, u83_64, u83_65, u83_68, u83_69, u83_72, u83_74, u83_76, u83_77, u83_79, u83_80, u83_83, u83_84, u83_87, u83_88, u83_90, u83_91, u83_94, u83_95, u83_98, nI_le8, Nat.le_refl, if_true, e1, e2, e3, e4, e5, s_mix, pu_some, pu_none]
    rfl
theorem c_mixPlans (h : Bs N B m) (hc : Ca N B m) {k : Nat} (hk : k < mN N B) {g : Int64} : ∃ m1, Kc m m1 ∧ Ca N B m1 ∧ ∀ (f : Nat) (Rt : Option Value → AMem → Prop), T S (f + 10) 84 0 [some (.ref 0), some (.long g), none, some (.int (nI k)), none, none] [] m Rt = Rt (some (.long (sd2 N B g k))) m1 := by
  have h8 := (Bs_m8 h).1
  obtain ⟨m1, k1, a1, e1⟩ := c_lodge (S := S) (x := nI k) (v := nI 0) h hc
  have b1 := Bs_c h k1
  rw [v_lodge hk h8 (by decide)] at e1
  have kk1 := k1
  obtain ⟨m2, k2, a2, e2⟩ := c_lodge (S := S) (x := nI k) (v := nI 1) b1 a1
  have b2 := Bs_c b1 k2
  rw [v_lodge hk h8 (by decide)] at e2
  have kk2 := Kc_t kk1 k2
  obtain ⟨m3, k3, a3, e3⟩ := c_leave (S := S) (x := nI k) (i := -1) b2 a2
  have b3 := Bs_c b2 k3
  rw [v_leaveN hk h8] at e3
  have kk3 := Kc_t kk2 k3
  obtain ⟨m4, k4, a4, e4⟩ := c_leave (S := S) (x := nI k) (i := nI 0) b3 a3
  have b4 := Bs_c b3 k4
  rw [v_leave0 hk h8] at e4
  have kk4 := Kc_t kk3 k4
  obtain ⟨m5, k5, a5, e5⟩ := c_was (S := S) (x := nI k) (v := nI 0) b4 a4
  have b5 := Bs_c b4 k5
  rw [v_was hk h8 (by decide)] at e5
  have kk5 := Kc_t kk4 k5
  obtain ⟨m6, k6, a6, e6⟩ := c_was (S := S) (x := nI k) (v := nI 1) b5 a5
  have b6 := Bs_c b5 k6
  rw [v_was hk h8 (by decide)] at e6
  have kk6 := Kc_t kk5 k6
  obtain ⟨m7, k7, a7, e7⟩ := c_storm (S := S) (c := nI 5) (x := nI k) (d := nI 20) (v := nI 0) b6 a6
  have b7 := Bs_c b6 k7
  rw [v_storm hk h8 (by decide)] at e7
  have kk7 := Kc_t kk6 k7
  obtain ⟨m8, k8, a8, e8⟩ := c_storm (S := S) (c := nI 5) (x := nI k) (d := nI 20) (v := nI 1) b7 a7
  have b8 := Bs_c b7 k8
  rw [v_storm hk h8 (by decide)] at e8
  have kk8 := Kc_t kk7 k8
  refine ⟨m8, kk8, a8, fun f Rt => ?_⟩
  simp only [u84_0, u84_1, u84_2, u84_3, u84_4, u84_7, u84_8, u84_11, u84_12, u84_13, u84_14, u84_17, u84_18, u84_21, u84_23, u84_25, u84_26, u84_27, u84_28, u84_31, u84_32, u84_35, u84_36, u84_37, u84_38, u84_41, u84_42, u84_45, u84_47, u84_49, u84_50, u84_51, u84_52, u84_55, u84_56, u84_59, u84_60, u84_61, u84_62, u84_65, u84_66, u84_69, u84_71, u84_73, u84_74, u84_75, u84_76, u84_78, u84_79, u84_82, u84_85, u84_86, u84_87, u84_88, u84_90, u84_91, u84_94, u84_97, e1, e2, e3, e4, e5, e6, e7, e8, s_mix, pu_some, pu_none]
  rfl
theorem c_mixInn (h : Bs N B m) (hc : Ca N B m) {k : Nat} (hk : k < iN N B) {g : Int64} : ∃ m1, Kc m m1 ∧ Ca N B m1 ∧ ∀ (f : Nat) (Rt : Option Value → AMem → Prop), T S (f + 10) 85 0 [some (.ref 0), some (.long g), none, some (.int (nI k)), none, none] [] m Rt = Rt (some (.long (hd1 N B g k))) m1 := by
  have h8 := (Bs_m8 h).2.1
  obtain ⟨m1, k1, a1, e1⟩ := c_house (S := S) (x := nI k) (v := nI 0) h hc
  have b1 := Bs_c h k1
  rw [v_row hk h8 (show 0 < 2 by decide) (by decide)] at e1
  have kk1 := k1
  obtain ⟨m2, k2, a2, e2⟩ := c_house (S := S) (x := nI k) (v := nI 1) b1 a1
  have b2 := Bs_c b1 k2
  rw [v_row hk h8 (show 1 < 2 by decide) (by decide)] at e2
  have kk2 := Kc_t kk1 k2
  obtain ⟨m3, k3, a3, e3⟩ := c_takes (S := S) (d := nI 9) (x := nI k) (v := nI 0) b2 a2
  have b3 := Bs_c b2 k3
  rw [v_takes0 (by decide) hk h8] at e3
  have kk3 := Kc_t kk2 k3
  obtain ⟨m4, k4, a4, e4⟩ := c_takes (S := S) (d := nI 9) (x := nI k) (v := nI 1) b3 a3
  have b4 := Bs_c b3 k4
  rw [v_takes1 (by decide) hk h8] at e4
  have kk4 := Kc_t kk3 k4
  obtain ⟨m5, k5, a5, e5⟩ := c_takes (S := S) (d := nI 29) (x := nI k) (v := nI 0) b4 a4
  have b5 := Bs_c b4 k5
  rw [v_takes0 (by decide) hk h8] at e5
  have kk5 := Kc_t kk4 k5
  obtain ⟨m6, k6, a6, e6⟩ := c_takes (S := S) (d := nI 29) (x := nI k) (v := nI 1) b5 a5
  have b6 := Bs_c b5 k6
  rw [v_takes1 (by decide) hk h8] at e6
  have kk6 := Kc_t kk5 k6
  obtain ⟨m7, k7, a7, e7⟩ := c_price (S := S) (x := nI k) (v := nI 0) b6 a6
  have b7 := Bs_c b6 k7
  rw [v_price0 hk h8] at e7
  have kk7 := Kc_t kk6 k7
  obtain ⟨m8, k8, a8, e8⟩ := c_price (S := S) (x := nI k) (v := nI 1) b7 a7
  have b8 := Bs_c b7 k8
  rw [v_price1 hk h8] at e8
  have kk8 := Kc_t kk7 k8
  obtain ⟨m9, k9, a9, e9⟩ := c_port (S := S) (seed := nI 7) (x := nI k) b8 a8
  have b9 := Bs_c b8 k9
  rw [v_port hk h8] at e9
  have kk9 := Kc_t kk8 k9
  refine ⟨m9, kk9, a9, fun f Rt => ?_⟩
  simp only [u85_0, u85_1, u85_2, u85_3, u85_4, u85_7, u85_8, u85_11, u85_12, u85_13, u85_14, u85_17, u85_18, u85_21, u85_23, u85_25, u85_26, u85_28, u85_29, u85_30, u85_33, u85_34, u85_37, u85_38, u85_40, u85_41, u85_42, u85_45, u85_46, u85_49, u85_51, u85_53, u85_54, u85_56, u85_57, u85_58, u85_61, u85_62, u85_65, u85_66, u85_68, u85_69, u85_70, u85_73, u85_74, u85_77, u85_79, u85_81, u85_82, u85_83, u85_84, u85_87, u85_88, u85_91, u85_92, u85_93, u85_94, u85_97, u85_98, u85_101, u85_103, u85_105, u85_106, u85_108, u85_109, u85_112, u85_113, u85_116, e1, e2, e3, e4, e5, e6, e7, e8, e9, s_mix, pu_some, pu_none]
  rfl
theorem c_mixShip (h : Bs N B m) (hc : Ca N B m) {k : Nat} (hk : k < fN N B) {g : Int64} : ∃ m1, Kc m m1 ∧ Ca N B m1 ∧ ∀ (f : Nat) (Rt : Option Value → AMem → Prop), T S (f + 10) 86 0 [some (.ref 0), some (.long g), none, some (.int (nI k)), none, none, none] [] m Rt = Rt (some (.long (fd1 N B g k))) m1 := by
  have h8 := (Bs_m8 h).2.2
  obtain ⟨m0, ⟨k0, a0⟩, e0⟩ := it_runE (fun i (s : Int64) (x : AMem) (r : Nat × (Option Value → AMem → Prop)) => T S (r.1 + 10) 86 6 [some (.ref 0), some (.long g), none, some (.int (nI k)), some (.long s), none, some (.int (nI i))] [] x r.2) (fun w g => mx g (w0 N B (7 + w) k).toInt64) (fun _ _ x => Kc m x ∧ Ca N B x) 4 (fun i hi s x ⟨hx1, hx2⟩ => by
    obtain ⟨m1, k1, a1, e1⟩ := c_ship (S := S) (x := nI k) (v := nI i) (Bs_c h hx1) hx2
    rw [v_row hk (by omega) hi (by decide)] at e1
    have hle : ¬ 4 ≤ i := by omega
    refine ⟨m1, ⟨Kc_t hx1 k1, a1⟩, fun r => u86_6.trans ?_⟩
    simp (disch := omega) only [u86_0, u86_1, u86_3, u86_4, u86_8, u86_9, u86_12, u86_14, u86_15, u86_16, u86_18, u86_21, u86_22, u86_25, u86_27, u86_30, u86_33, u86_34, u86_38, u86_39, u86_42, u86_44, u86_45, u86_46, u86_48, u86_51, u86_52, u86_55, u86_57, u86_60, u86_63, u86_65, u86_66, u86_67, u86_70, u86_71, u86_74, nI_le8, hle, if_false, e1, s_mix, pu_some, pu_none, nI_add]) g m ⟨Kc_r, hc⟩
  have hrow : it 4 (fun w g => mx g (w0 N B (7 + w) k).toInt64) g = rowD N B 7 4 k g := rfl
  rw [hrow] at e0
  obtain ⟨m2, ⟨k2, a2⟩, e2⟩ := it_runE (fun i (s : Int64) (x : AMem) (r : Nat × (Option Value → AMem → Prop)) => T S (r.1 + 10) 86 36 [some (.ref 0), some (.long g), none, some (.int (nI k)), some (.long s), none, some (.int (nI i))] [] x r.2) (fun w g => mx g (crP N B k (nI w)).toInt64) (fun _ _ x => Kc m x ∧ Ca N B x) 5 (fun i hi s x ⟨hx1, hx2⟩ => by
    obtain ⟨m1, k1, a1, e1⟩ := c_crew (S := S) (x := nI k) (v := nI i) (Bs_c h hx1) hx2
    rw [v_crew hk h8 hi] at e1
    have hle : ¬ 5 ≤ i := by omega
    refine ⟨m1, ⟨Kc_t hx1 k1, a1⟩, fun r => u86_36.trans ?_⟩
    simp (disch := omega) only [u86_0, u86_1, u86_3, u86_4, u86_8, u86_9, u86_12, u86_14, u86_15, u86_16, u86_18, u86_21, u86_22, u86_25, u86_27, u86_30, u86_33, u86_34, u86_38, u86_39, u86_42, u86_44, u86_45, u86_46, u86_48, u86_51, u86_52, u86_55, u86_57, u86_60, u86_63, u86_65, u86_66, u86_67, u86_70, u86_71, u86_74, nI_le8, hle, if_false, e1, s_mix, pu_some, pu_none, nI_add]) (rowD N B 7 4 k g) m0 ⟨k0, a0⟩
  obtain ⟨m3, k3, a3, e3⟩ := c_look (S := S) (x := nI k) (Bs_c h k2) a2
  rw [v_look hk h8] at e3
  refine ⟨m3, Kc_t k2 k3, a3, fun f Rt => ?_⟩
  refine Eq.trans ?_ ((e0 (f, Rt)).trans ?_)
  · simp only [u86_0, u86_1, u86_3, u86_4, u86_8, u86_9, u86_12, u86_14, u86_15, u86_16, u86_18, u86_21, u86_22, u86_25, u86_27, u86_30, u86_33, u86_34, u86_38, u86_39, u86_42, u86_44, u86_45, u86_46, u86_48, u86_51, u86_52, u86_55, u86_57, u86_60, u86_63, u86_65, u86_66, u86_67, u86_70, u86_71, u86_74]
  · refine u86_6.trans ?_
    simp (disch := omega) only [u86_8, u86_9, u86_33, u86_34, nI_le8, Nat.le_refl, if_true]
    refine (e2 (f, Rt)).trans (u86_36.trans ?_)
    simp (disch := omega) only [u86_0, u86_1, u86_3, u86_4, u86_8, u86_9, u86_12, u86_14, u86_15, u86_16, u86_18, u86_21, u86_22, u86_25, u86_27, u86_30, u86_33, u86_34, u86_38, u86_39, u86_42, u86_44, u86_45, u86_46, u86_48, u86_51, u86_52, u86_55, u86_57, u86_60, u86_63, u86_65, u86_66, u86_67, u86_70, u86_71, u86_74, nI_le8, Nat.le_refl, if_true, e3, s_mix, pu_some, pu_none]
    rfl
set_option maxHeartbeats 2000000 in
theorem c_digest (h : Bs N B m) (hc : Ca N B m) : ∃ m1, Kc m m1 ∧ Ca N B m1 ∧ ∀ (f : Nat) (Rt : Option Value → AMem → Prop), T S (f + 11) 81 0 [some (.ref 0), none, none, none] [] m Rt = Rt (some (.long (dg2 N B))) m1 := by
  obtain ⟨h8, h8i, h6⟩ := Bs_m8 h
  have tsn := fun (x : AMem) (hx : Kc m x) => Bs_TS (Bs_c h hx)
  obtain ⟨n1, ⟨p1, q1⟩, e1⟩ := it_runE (fun i (s : Int64) (x : AMem) (r : Nat × (Option Value → AMem → Prop)) => T S (r.1 + 11) 81 6 [some (.ref 0), some (.long s), none, some (.int (nI i))] [] x r.2) (fun w h => mx h (aCount N B 0 (nI w)).toInt64) (fun _ _ x => Kc m x ∧ Ca N B x) 8 (fun i hi s x ⟨hx1, hx2⟩ => by
    obtain ⟨m1, k1, a1, e1⟩ := c_count (S := S) (v := nI i) (Bs_c h hx1) hx2
    rw [v_count hi] at e1
    have hle : ¬ 8 ≤ i := by omega
    refine ⟨m1, ⟨Kc_t hx1 k1, a1⟩, fun r => u81_6.trans ?_⟩
    simp (disch := omega) only [u81_0, u81_3, u81_4, u81_5, u81_7, u81_9, u81_12, u81_13, u81_14, u81_15, u81_18, u81_19, u81_22, u81_23, u81_26, u81_29, u81_30, u81_32, u81_33, u81_36, u81_37, u81_38, u81_39, u81_42, u81_43, u81_46, u81_47, u81_50, u81_53, u81_54, u81_56, u81_57, u81_60, u81_63, u81_66, u81_67, u81_68, u81_69, u81_70, u81_73, u81_74, u81_77, u81_78, u81_81, u81_84, u81_85, u81_87, u81_88, u81_91, u81_94, u81_97, u81_98, u81_99, u81_100, u81_103, u81_104, u81_107, u81_110, u81_111, u81_113, u81_114, u81_117, u81_120, u81_123, u81_124, u81_125, u81_126, u81_129, u81_130, u81_133, u81_136, u81_137, u81_138, u81_140, u81_143, u81_144, u81_147, u81_148, u81_150, u81_153, u81_154, u81_157, u81_158, u81_161, u81_162, u81_165, u81_166, u81_167, u81_168, u81_171, u81_172, u81_175, u81_176, u81_178, u81_181, u81_182, u81_185, u81_186, u81_188, u81_191, u81_192, u81_195, u81_196, u81_197, u81_198, u81_200, u81_201, u81_204, u81_205, u81_208, nI_le8, hle, if_false, e1, s_mix, pu_some, pu_none, nI_add]) 17 m ⟨Kc_r, hc⟩
  obtain ⟨n2, ⟨p2, q2⟩, e2⟩ := it_runE (fun i (s : Int64) (x : AMem) (r : Nat × (Option Value → AMem → Prop)) => T S (r.1 + 11) 81 31 [some (.ref 0), some (.long s), none, some (.int (nI i))] [] x r.2) (fun t h => mx h (optI (ffN t (N t) (B t))).toInt64) (fun _ _ x => Kc m x ∧ Ca N B x) 3 (fun i hi s x ⟨hx1, hx2⟩ => by
    obtain ⟨m1, k1, a1, e1⟩ := c_fault (S := S) (x := nI i) (Bs_c h hx1) hx2
    rw [v_fault hi] at e1
    have hle : ¬ 3 ≤ i := by omega
    refine ⟨m1, ⟨Kc_t hx1 k1, a1⟩, fun r => u81_31.trans ?_⟩
    simp (disch := omega) only [u81_0, u81_3, u81_4, u81_5, u81_7, u81_9, u81_12, u81_13, u81_14, u81_15, u81_18, u81_19, u81_22, u81_23, u81_26, u81_29, u81_30, u81_32, u81_33, u81_36, u81_37, u81_38, u81_39, u81_42, u81_43, u81_46, u81_47, u81_50, u81_53, u81_54, u81_56, u81_57, u81_60, u81_63, u81_66, u81_67, u81_68, u81_69, u81_70, u81_73, u81_74, u81_77, u81_78, u81_81, u81_84, u81_85, u81_87, u81_88, u81_91, u81_94, u81_97, u81_98, u81_99, u81_100, u81_103, u81_104, u81_107, u81_110, u81_111, u81_113, u81_114, u81_117, u81_120, u81_123, u81_124, u81_125, u81_126, u81_129, u81_130, u81_133, u81_136, u81_137, u81_138, u81_140, u81_143, u81_144, u81_147, u81_148, u81_150, u81_153, u81_154, u81_157, u81_158, u81_161, u81_162, u81_165, u81_166, u81_167, u81_168, u81_171, u81_172, u81_175, u81_176, u81_178, u81_181, u81_182, u81_185, u81_186, u81_188, u81_191, u81_192, u81_195, u81_196, u81_197, u81_198, u81_200, u81_201, u81_204, u81_205, u81_208, nI_le8, hle, if_false, e1, s_mix, pu_some, pu_none, nI_add]) (it 8 (fun w h => mx h (aCount N B 0 (nI w)).toInt64) 17) n1 ⟨p1, q1⟩
  obtain ⟨n3, ⟨p3, q3⟩, e3⟩ := it_runE (fun i (s : Int64) (x : AMem) (r : Nat × (Option Value → AMem → Prop)) => T S (r.1 + 11) 81 55 [some (.ref 0), some (.long s), none, some (.int (nI i))] [] x r.2) (fun k h => sd2 N B (sd1 N B h k) k) (fun _ _ x => Kc m x ∧ Ca N B x) (mN N B) (fun i hi s x ⟨hx1, hx2⟩ => by
    obtain ⟨m1, k1, a1, e1⟩ := c_mixDays (S := S) (g := s) (Bs_c h hx1) hx2 hi
    obtain ⟨m2, k2, a2, e2⟩ := c_mixPlans (S := S) (g := sd1 N B s i) (Bs_c h (Kc_t hx1 k1)) a1 hi
    have hle : (nI (mN N B) ≤ nI i) = False := by rw [nI_le8 (by omega) (by omega)]; exact eq_false (by omega)
    refine ⟨m2, ⟨Kc_t (Kc_t hx1 k1) k2, a2⟩, fun r => u81_55.trans ?_⟩
    simp only [u81_0, u81_3, u81_4, u81_5, u81_7, u81_9, u81_12, u81_13, u81_14, u81_15, u81_18, u81_19, u81_22, u81_23, u81_26, u81_29, u81_30, u81_32, u81_33, u81_36, u81_37, u81_38, u81_39, u81_42, u81_43, u81_46, u81_47, u81_50, u81_53, u81_54, u81_56, u81_57, u81_60, u81_63, u81_66, u81_67, u81_68, u81_69, u81_70, u81_73, u81_74, u81_77, u81_78, u81_81, u81_84, u81_85, u81_87, u81_88, u81_91, u81_94, u81_97, u81_98, u81_99, u81_100, u81_103, u81_104, u81_107, u81_110, u81_111, u81_113, u81_114, u81_117, u81_120, u81_123, u81_124, u81_125, u81_126, u81_129, u81_130, u81_133, u81_136, u81_137, u81_138, u81_140, u81_143, u81_144, u81_147, u81_148, u81_150, u81_153, u81_154, u81_157, u81_158, u81_161, u81_162, u81_165, u81_166, u81_167, u81_168, u81_171, u81_172, u81_175, u81_176, u81_178, u81_181, u81_182, u81_185, u81_186, u81_188, u81_191, u81_192, u81_195, u81_196, u81_197, u81_198, u81_200, u81_201, u81_204, u81_205, u81_208, (tsn x hx1).1, hle, if_false, e1, e2, pu_some, pu_none, nI_add]) (it 3 (fun t h => mx h (optI (ffN t (N t) (B t))).toInt64) (it 8 (fun w h => mx h (aCount N B 0 (nI w)).toInt64) 17)) n2 ⟨p2, q2⟩
  obtain ⟨n4, ⟨p4, q4⟩, e4⟩ := it_runE (fun i (s : Int64) (x : AMem) (r : Nat × (Option Value → AMem → Prop)) => T S (r.1 + 11) 81 86 [some (.ref 0), some (.long s), none, some (.int (nI i))] [] x r.2) (fun k h => hd1 N B h k) (fun _ _ x => Kc m x ∧ Ca N B x) (iN N B) (fun i hi s x ⟨hx1, hx2⟩ => by
    obtain ⟨m1, k1, a1, e1⟩ := c_mixInn (S := S) (g := s) (Bs_c h hx1) hx2 hi
    have hle : (nI (iN N B) ≤ nI i) = False := by rw [nI_le8 (by omega) (by omega)]; exact eq_false (by omega)
    refine ⟨m1, ⟨Kc_t hx1 k1, a1⟩, fun r => u81_86.trans ?_⟩
    simp only [u81_0, u81_3, u81_4, u81_5, u81_7, u81_9, u81_12, u81_13, u81_14, u81_15, u81_18, u81_19, u81_22, u81_23, u81_26, u81_29, u81_30, u81_32, u81_33, u81_36, u81_37, u81_38, u81_39, u81_42, u81_43, u81_46, u81_47, u81_50, u81_53, u81_54, u81_56, u81_57, u81_60, u81_63, u81_66, u81_67, u81_68, u81_69, u81_70, u81_73, u81_74, u81_77, u81_78, u81_81, u81_84, u81_85, u81_87, u81_88, u81_91, u81_94, u81_97, u81_98, u81_99, u81_100, u81_103, u81_104, u81_107, u81_110, u81_111, u81_113, u81_114, u81_117, u81_120, u81_123, u81_124, u81_125, u81_126, u81_129, u81_130, u81_133, u81_136, u81_137, u81_138, u81_140, u81_143, u81_144, u81_147, u81_148, u81_150, u81_153, u81_154, u81_157, u81_158, u81_161, u81_162, u81_165, u81_166, u81_167, u81_168, u81_171, u81_172, u81_175, u81_176, u81_178, u81_181, u81_182, u81_185, u81_186, u81_188, u81_191, u81_192, u81_195, u81_196, u81_197, u81_198, u81_200, u81_201, u81_204, u81_205, u81_208, (tsn x hx1).2.1, hle, if_false, e1, pu_some, pu_none, nI_add]) (it (mN N B) (fun k h => sd2 N B (sd1 N B h k) k) (it 3 (fun t h => mx h (optI (ffN t (N t) (B t))).toInt64) (it 8 (fun w h => mx h (aCount N B 0 (nI w)).toInt64) 17))) n3 ⟨p3, q3⟩
  obtain ⟨n5, ⟨p5, q5⟩, e5⟩ := it_runE (fun i (s : Int64) (x : AMem) (r : Nat × (Option Value → AMem → Prop)) => T S (r.1 + 11) 81 112 [some (.ref 0), some (.long s), none, some (.int (nI i))] [] x r.2) (fun k h => fd1 N B h k) (fun _ _ x => Kc m x ∧ Ca N B x) (fN N B) (fun i hi s x ⟨hx1, hx2⟩ => by
    obtain ⟨m1, k1, a1, e1⟩ := c_mixShip (S := S) (g := s) (Bs_c h hx1) hx2 hi
    have hle : (nI (fN N B) ≤ nI i) = False := by rw [nI_le8 (by omega) (by omega)]; exact eq_false (by omega)
    refine ⟨m1, ⟨Kc_t hx1 k1, a1⟩, fun r => u81_112.trans ?_⟩
    simp only [u81_0, u81_3, u81_4, u81_5, u81_7, u81_9, u81_12, u81_13, u81_14, u81_15, u81_18, u81_19, u81_22, u81_23, u81_26, u81_29, u81_30, u81_32, u81_33, u81_36, u81_37, u81_38, u81_39, u81_42, u81_43, u81_46, u81_47, u81_50, u81_53, u81_54, u81_56, u81_57, u81_60, u81_63, u81_66, u81_67, u81_68, u81_69, u81_70, u81_73, u81_74, u81_77, u81_78, u81_81, u81_84, u81_85, u81_87, u81_88, u81_91, u81_94, u81_97, u81_98, u81_99, u81_100, u81_103, u81_104, u81_107, u81_110, u81_111, u81_113, u81_114, u81_117, u81_120, u81_123, u81_124, u81_125, u81_126, u81_129, u81_130, u81_133, u81_136, u81_137, u81_138, u81_140, u81_143, u81_144, u81_147, u81_148, u81_150, u81_153, u81_154, u81_157, u81_158, u81_161, u81_162, u81_165, u81_166, u81_167, u81_168, u81_171, u81_172, u81_175, u81_176, u81_178, u81_181, u81_182, u81_185, u81_186, u81_188, u81_191, u81_192, u81_195, u81_196, u81_197, u81_198, u81_200, u81_201, u81_204, u81_205, u81_208, (tsn x hx1).2.2.1, hle, if_false, e1, pu_some, pu_none, nI_add]) (it (iN N B) (fun k h => hd1 N B h k) (it (mN N B) (fun k h => sd2 N B (sd1 N B h k) k) (it 3 (fun t h => mx h (optI (ffN t (N t) (B t))).toInt64) (it 8 (fun w h => mx h (aCount N B 0 (nI w)).toInt64) 17)))) n4 ⟨p4, q4⟩
  have hb5 := Bs_c h p5
  obtain ⟨t1, t2, t3⟩ := (fun (x : AMem) (hx : Kc m x) => (⟨(tsn x hx).1, (tsn x hx).2.1, (tsn x hx).2.2.1⟩ : x 8 0 = nI (mN N B) ∧ x 8 1 = nI (iN N B) ∧ x 8 2 = nI (fN N B))) n3 p3
  have s4 := (tsn n4 p4).2.1
  have s5 := (tsn n5 p5).2.2.1
  obtain ⟨r1, k1, a1, z1⟩ := c_richest (S := S) (d := nI 9) hb5 q5
  have b1 := Bs_c hb5 k1
  rw [v_rich (by decide)] at z1
  have kk1 := Kc_t p5 k1
  obtain ⟨r2, k2, a2, z2⟩ := c_richest (S := S) (d := nI 29) b1 a1
  have b2 := Bs_c b1 k2
  rw [v_rich (by decide)] at z2
  have kk2 := Kc_t kk1 k2
  obtain ⟨r3, k3, a3, z3⟩ := c_last (S := S) b2 a2
  have b3 := Bs_c b2 k3
  have kk3 := Kc_t kk2 k3
  obtain ⟨r4, k4, a4, z4⟩ := c_never (S := S) b3 a3
  have b4 := Bs_c b3 k4
  have kk4 := Kc_t kk3 k4
  obtain ⟨r5, k5, a5, z5⟩ := c_ask (S := S) (d := nI 9) b4 a4
  have b5 := Bs_c b4 k5
  rw [v_ask (by decide)] at z5
  have kk5 := Kc_t kk4 k5
  obtain ⟨r6, k6, a6, z6⟩ := c_ask (S := S) (d := nI 29) b5 a5
  have b6 := Bs_c b5 k6
  rw [v_ask (by decide)] at z6
  have kk6 := Kc_t kk5 k6
  obtain ⟨r7, k7, a7, z7⟩ := c_port (S := S) (seed := nI 7) (x := -1) b6 a6
  have b7 := Bs_c b6 k7
  rw [v_portN] at z7
  have kk7 := Kc_t kk6 k7
  refine ⟨r7, kk7, a7, fun f Rt => ?_⟩
  have hd1e : it (fN N B) (fun k h => fd1 N B h k) (it (iN N B) (fun k h => hd1 N B h k) (it (mN N B) (fun k h => sd2 N B (sd1 N B h k) k) (it 3 (fun t h => mx h (optI (ffN t (N t) (B t))).toInt64) (it 8 (fun w h => mx h (aCount N B 0 (nI w)).toInt64) 17)))) = dg1 N B := rfl
  rw [hd1e] at e5
  refine Eq.trans ?_ ((e1 (f, Rt)).trans ?_)
  · simp only [u81_0, u81_3, u81_4, u81_5, u81_7, u81_9, u81_12, u81_13, u81_14, u81_15, u81_18, u81_19, u81_22, u81_23, u81_26, u81_29, u81_30, u81_32, u81_33, u81_36, u81_37, u81_38, u81_39, u81_42, u81_43, u81_46, u81_47, u81_50, u81_53, u81_54, u81_56, u81_57, u81_60, u81_63, u81_66, u81_67, u81_68, u81_69, u81_70, u81_73, u81_74, u81_77, u81_78, u81_81, u81_84, u81_85, u81_87, u81_88, u81_91, u81_94, u81_97, u81_98, u81_99, u81_100, u81_103, u81_104, u81_107, u81_110, u81_111, u81_113, u81_114, u81_117, u81_120, u81_123, u81_124, u81_125, u81_126, u81_129, u81_130, u81_133, u81_136, u81_137, u81_138, u81_140, u81_143, u81_144, u81_147, u81_148, u81_150, u81_153, u81_154, u81_157, u81_158, u81_161, u81_162, u81_165, u81_166, u81_167, u81_168, u81_171, u81_172, u81_175, u81_176, u81_178, u81_181, u81_182, u81_185, u81_186, u81_188, u81_191, u81_192, u81_195, u81_196, u81_197, u81_198, u81_200, u81_201, u81_204, u81_205, u81_208]
  · refine u81_6.trans ?_
    simp (disch := omega) only [u81_7, u81_9, u81_29, u81_30, nI_le8, Nat.le_refl, if_true]
    refine (e2 (f, Rt)).trans (u81_31.trans ?_)
    simp (disch := omega) only [u81_32, u81_33, u81_53, u81_54, nI_le8, Nat.le_refl, if_true]
    refine (e3 (f, Rt)).trans (u81_55.trans ?_)
    simp (disch := omega) only [u81_56, u81_57, u81_60, u81_63, u81_84, u81_85, t1, nI_le8, Nat.le_refl, if_true]
    refine (e4 (f, Rt)).trans (u81_86.trans ?_)
    simp (disch := omega) only [u81_87, u81_88, u81_91, u81_94, u81_110, u81_111, s4, nI_le8, Nat.le_refl, if_true]
    refine (e5 (f, Rt)).trans (u81_112.trans ?_)
    simp (disch := omega) only [u81_0, u81_3, u81_4, u81_5, u81_7, u81_9, u81_12, u81_13, u81_14, u81_15, u81_18, u81_19, u81_22, u81_23, u81_26, u81_29, u81_30, u81_32, u81_33, u81_36, u81_37, u81_38, u81_39, u81_42, u81_43, u81_46, u81_47, u81_50, u81_53, u81_54, u81_56, u81_57, u81_60, u81_63, u81_66, u81_67, u81_68, u81_69, u81_70, u81_73, u81_74, u81_77, u81_78, u81_81, u81_84, u81_85, u81_87, u81_88, u81_91, u81_94, u81_97, u81_98, u81_99, u81_100, u81_103, u81_104, u81_107, u81_110, u81_111, u81_113, u81_114, u81_117, u81_120, u81_123, u81_124, u81_125, u81_126, u81_129, u81_130, u81_133, u81_136, u81_137, u81_138, u81_140, u81_143, u81_144, u81_147, u81_148, u81_150, u81_153, u81_154, u81_157, u81_158, u81_161, u81_162, u81_165, u81_166, u81_167, u81_168, u81_171, u81_172, u81_175, u81_176, u81_178, u81_181, u81_182, u81_185, u81_186, u81_188, u81_191, u81_192, u81_195, u81_196, u81_197, u81_198, u81_200, u81_201, u81_204, u81_205, u81_208, s5, nI_le8, Nat.le_refl, if_true, z1, z2, z3, z4, z5, z6, z7, s_mix, pu_some, pu_none]
    rfl
end DGC
