section UPS
variable {S : AScr} {m m0 m1 m2 m3 M X : AMem} {w : AMem} {N N' : Nat → Nat} {B B' : Nat → Nat → Nat}
theorem p_cap (h : Bs N B m) (hc : Ca N B m) {x : Int32} : PR S 44 110 [some (.ref 0), some (.int x), none] [some (.ref 73), some (.int x), none] m := by
  have e1 := fun (f : Nat) (Rt : Option Value → AMem → Prop) => s_cap (S := S) (f := f + 11) (m := m) (Rt := Rt) (x := x)
  have e2 := fun (f : Nat) (m : AMem) (Rt : Option Value → AMem → Prop) => s_mCap (S := S) (f := f + 11) (m := m) (Rt := Rt) (x := x)
  by_cases q : nI 0 ≤ x ∧ x < nI 10
  · obtain ⟨k, hk, rfl⟩ := P_nI q (by decide)
    simp only [if_pos q] at e1 e2
    have g := h
    obtain ⟨g1, g2, g3, g4, g5, g6, g7⟩ := g
    have r : ∀ a j, (a = 0 → j = 11) → (a = 8 → j ≠ 3) → (a = 73 → j ≠ 15) → up (forgM (up m 8 3 (nI k))) 73 15 (nI k) a j = m a j := fun a j h0 h8 h73 => by
      rw [up_off (by omega)]
      unfold forgM
      rw [up_off (by omega), up_off (by omega), up_off (by omega)]
    have row : ∀ a, a ≠ 0 → a ≠ 8 → a ≠ 73 → up (forgM (up m 8 3 (nI k))) 73 15 (nI k) a = m a := fun a h0 h8 h73 => funext fun j => r a j (fun z => absurd z h0) (fun z => absurd z h8) (fun z => absurd z h73)
    have v8 : up (forgM (up m 8 3 (nI k))) 73 15 (nI k) 8 3 = nI k := by
      rw [up_row (by decide)]
      unfold forgM
      rw [up_row (by decide), up_row (by decide), up_at]
    have v9 : up (forgM (up m 8 3 (nI k))) 73 15 (nI k) 0 9 = nI 0 := by
      rw [up_row (by decide)]
      unfold forgM
      rw [up_off (by decide), up_at]
    have v10 : up (forgM (up m 8 3 (nI k))) 73 15 (nI k) 0 10 = nI 0 := by
      rw [up_row (by decide)]
      unfold forgM
      rw [up_at]
    refine ⟨(m 8 3), _, up (forgM (up m 8 3 (nI k))) 73 15 (nI k), fu N 3 k, B, ?_, ⟨Or.inl v9, Or.inl v10⟩, e1, fun f Rt => (e2 f _ Rt).trans ?_⟩
    · refine ⟨fun t ht => ?_, ⟨hk, v8, up_at, ?_⟩, ?_, Sg_far g4 (fun a j a1 a2 => r a j (by omega) (by omega) (by omega)), ?_, ?_, fun s hs => ?_⟩
      · rw [fu_ne (show t ≠ 3 by omega)]
        exact ⟨Tx_keep (g1 t ht).1 (row _ (by omega) (by omega) (by omega)) (row _ (by omega) (by omega) (by omega)), Ux_keep (g1 t ht).2 (row 74 (by omega) (by omega) (by omega)) (row 75 (by omega) (by omega) (by omega))⟩
      · rw [r 8 4 (by omega) (by omega) (by omega)]
        exact g2.2.2.2
      · have hwe : ∀ i j, 1 ≤ i → w0 (fu N 3 k) B i j = w0 N B i j := fun i j hi => by
          unfold w0 wA wT
          rw [if_neg (show ¬ i = 0 by omega), if_neg (show ¬ i = 0 by omega)]
        refine ⟨⟨?_, ?_, ?_⟩, ⟨v8, ?_⟩, fun i j a1 a2 a3 => ?_, fun i j a1 a2 a3 => ?_, fun i j a1 a2 a3 => ?_⟩
        · rw [r 8 0 (by omega) (by omega) (by omega)]; exact g3.1.1
        · rw [r 8 1 (by omega) (by omega) (by omega)]; exact g3.1.2.1
        · rw [r 8 2 (by omega) (by omega) (by omega)]; exact g3.1.2.2
        · rw [r 8 4 (by omega) (by omega) (by omega)]; exact g3.2.1.2
        · rw [row (8 + i) (by omega) (by omega) (by omega), hwe i j (by omega)]; exact g3.2.2.1 i j a1 a2 a3
        · rw [row (8 + i) (by omega) (by omega) (by omega), hwe i j (by omega)]; exact g3.2.2.2.1 i j a1 a2 a3
        · rw [row (8 + i) (by omega) (by omega) (by omega), hwe i j (by omega)]; exact g3.2.2.2.2 i j a1 a2 a3
      · rw [r 73 27 (by omega) (by omega) (by omega), row 95 (by omega) (by omega) (by omega), row 96 (by omega) (by omega) (by omega), row 97 (by omega) (by omega) (by omega)]
        exact g5
      · rw [r 0 11 (by omega) (by omega) (by omega), r 73 37 (by omega) (by omega) (by omega)]
        exact g6
      · unfold ShL
        rw [row (65 + s) (by omega) (by omega) (by omega), row (69 + s) (by omega) (by omega) (by omega), row 99 (by omega) (by omega) (by omega), row 100 (by omega) (by omega) (by omega), row 101 (by omega) (by omega) (by omega), row 102 (by omega) (by omega) (by omega)]
        exact g7 s hs
    · have e83 : forgM (up m 8 3 (nI k)) 73 15 = m 8 3 := by
        unfold forgM
        rw [up_row (by decide), up_row (by decide), up_row (by decide), h.2.1.2.1, h.2.1.2.2.1]
      rw [e83]
  · simp only [if_neg q] at e1 e2
    exact pr_same h hc e1 (fun f Rt => e2 f m Rt)
def sB (B : Nat → Nat → Nat) (sd sh su : Nat → Nat) (i : Nat) : Nat → Nat := if i = 3 then sd else if i = 4 then sh else if i = 5 then su else B i
theorem seen_Bs (h : Bs N B m) (hc : Ca N B m) {c : Nat} {sd sh su : Nat → Nat} (hS : Sg c sd sh su m2) (hM : m2 73 27 = nI c ∧ ∀ i, i < c → m2 95 i = nI (sd i) ∧ m2 96 i = nI (sh i) ∧ m2 97 i = nI (su i)) (hr : ∀ a j, ¬ (60 ≤ a ∧ a ≤ 63) → ¬ (95 ≤ a ∧ a ≤ 97) → ¬ (a = 73 ∧ j = 27) → m2 a j = m a j) : Bs (fu N 4 c) (sB B sd sh su) m2 ∧ Ca (fu N 4 c) (sB B sd sh su) m2 := by
  obtain ⟨g1, g2, g3, g4, g5, g6, g7⟩ := h
  have row : ∀ a, ¬ (60 ≤ a ∧ a ≤ 63) → ¬ (95 ≤ a ∧ a ≤ 97) → a ≠ 73 → m2 a = m a := fun a h1 h2 h3 => funext fun j => hr a j h1 h2 (fun z => h3 z.1)
  have eB : ∀ t, t < 3 → sB B sd sh su t = B t := fun t ht => by unfold sB; rw [if_neg (by omega), if_neg (by omega), if_neg (by omega)]
  refine ⟨⟨fun t ht => ?_, ?_, CW_keep g3 (fun a j a1 a2 => hr a j (by omega) (by omega) (by omega)), hS, hM, ?_, fun s hs => ?_⟩, ?_⟩
  · rw [fu_ne (show t ≠ 4 by omega), eB t ht]
    exact ⟨Tx_keep (g1 t ht).1 (row _ (by omega) (by omega) (by omega)) (row _ (by omega) (by omega) (by omega)), Ux_keep (g1 t ht).2 (row 74 (by omega) (by omega) (by omega)) (row 75 (by omega) (by omega) (by omega))⟩
  · rw [row 8 (by omega) (by omega) (by omega), hr 73 15 (by omega) (by omega) (by omega)]
    exact g2
  · rw [row 0 (by omega) (by omega) (by omega), hr 73 37 (by omega) (by omega) (by omega)]
    exact g6
  · unfold ShL
    rw [row (65 + s) (by omega) (by omega) (by omega), row (69 + s) (by omega) (by omega) (by omega), row 99 (by omega) (by omega) (by omega), row 100 (by omega) (by omega) (by omega), row 101 (by omega) (by omega) (by omega), row 102 (by omega) (by omega) (by omega)]
    exact g7 s hs
  · show Ca N B m2
    have rl : ∀ a, a < 60 → m2 a = m a := fun a ha => row a (by omega) (by omega) (by omega)
    unfold Ca DaysOK FatesOK Sim
    rw [rl 0 (by omega), rl (30 + 1) (by omega), rl (30 + 2) (by omega), rl (30 + 3) (by omega), rl (30 + 4) (by omega), rl (30 + 5) (by omega), rl (30 + 7) (by omega), rl (30 + 8) (by omega), rl (30 + 9) (by omega), rl 30 (by omega), rl 40 (by omega), rl 41 (by omega), rl 42 (by omega), rl 43 (by omega), rl 58 (by omega)]
    exact hc
def mput (c : Nat) (x y z : Int32) (X : AMem) : AMem := up (up (up (up X 95 c x) 96 c y) 97 c z) 73 27 (nI (c + 1))
theorem tok_e {x y z : Int32} : ((nI 0 ≤ x ∧ x < nI 30) ∧ (nI 0 ≤ y ∧ y ≤ nI 7) ∧ (nI 0 ≤ z ∧ z ≤ nI 999)) = ((nI 0 ≤ x ∧ x < nI 30) ∧ (¬ y < nI 0 ∧ ¬ nI 8 ≤ y) ∧ (¬ z < nI 0 ∧ z ≤ nI 999)) := by
  have e7 : (y ≤ nI 7) = (y < nI 8) := le_lt1 (by decide)
  rw [e7, Int32.not_lt, Int32.not_le, Int32.not_lt]
theorem s_mSeen {c : Nat} (hX : X 73 27 = nI c) (hc : c ≤ 8) {f : Nat} {Rt : Option Value → AMem → Prop} {x y z : Int32} : T S (f + 3) 145 0 [some (.ref 73), some (.int x), some (.int y), some (.int z)] [] X Rt = if (nI 0 ≤ x ∧ x < nI 30) ∧ (¬ y < nI 0 ∧ ¬ nI 8 ≤ y) ∧ (¬ z < nI 0 ∧ z ≤ nI 999) then (if c < 8 then Rt (some (.int (nI (c + 1)))) (mput c x y z X) else Rt (some (.int (-4))) X) else Rt (some (.int (-2))) X := by
  have te := tok_e (x := x) (y := y) (z := z)
  have h8 : (nI c = nI 8) = (c = 8) := nI_eq8 (by omega) (by omega)
  by_cases q1 : nI 0 ≤ x ∧ x < nI 30
  · have t1 : (nI 0 ≤ x ∧ x < nI 30) = True := eq_true q1
    by_cases q2 : nI 0 ≤ y ∧ y ≤ nI 7
    · have t2 : (nI 0 ≤ y ∧ y ≤ nI 7) = True := eq_true q2
      by_cases q3 : nI 0 ≤ z ∧ z ≤ nI 999
      · have t3 : (nI 0 ≤ z ∧ z ≤ nI 999) = True := eq_true q3
        by_cases q4 : c < 8
        · have hne : ¬ c = 8 := by omega
          have hB : inB (nI c) 8 = true := inB8 q4 (by decide)
          have hcc : (nI c).toNatClampNeg = c := nI_cl8 (by omega)
          rw [if_pos (te.mp ⟨q1, q2, q3⟩), if_pos q4]
          simp only [u145_0, u145_1, u145_4, u145_7, u145_8, u145_9, u145_11, u145_14, u145_17, u145_18, u145_19, u145_22, u145_25, u145_28, u145_30, u145_31, u145_32, u145_35, u145_37, u145_40, u145_42, u145_43, u145_44, u145_47, u145_48, u145_51, u145_52, u145_53, u145_54, u145_57, u145_58, u145_61, u145_62, u145_63, u145_64, u145_67, u145_68, u145_71, u145_72, u145_73, u145_74, u145_75, u145_78, u145_79, u145_80, u145_83, u145_84, u145_87, s_mDay, s_mIn, pu_some, pu_none, b01_e0, t1, t2, t3, not_true, if_false, hX, h8, hne, hB, hcc, true_and, up_ap, upA_ap, Nat.reduceEqDiff, false_and, true_and, and_true, and_false, and_self, if_false, if_true, nI_add]
          rfl
        · have heq : c = 8 := by omega
          rw [if_pos (te.mp ⟨q1, q2, q3⟩), if_neg q4]
          simp only [u145_0, u145_1, u145_4, u145_7, u145_8, u145_9, u145_11, u145_14, u145_17, u145_18, u145_19, u145_22, u145_25, u145_28, u145_30, u145_31, u145_32, u145_35, u145_37, u145_40, u145_42, u145_43, u145_44, u145_47, u145_48, u145_51, u145_52, u145_53, u145_54, u145_57, u145_58, u145_61, u145_62, u145_63, u145_64, u145_67, u145_68, u145_71, u145_72, u145_73, u145_74, u145_75, u145_78, u145_79, u145_80, u145_83, u145_84, u145_87, s_mDay, s_mIn, pu_some, pu_none, b01_e0, t1, t2, t3, not_true, if_false, hX, h8, heq, if_true]
      · have t3 : (nI 0 ≤ z ∧ z ≤ nI 999) = False := eq_false q3
        rw [if_neg (fun u => q3 (te.mpr u).2.2)]
        simp only [u145_0, u145_1, u145_4, u145_7, u145_8, u145_9, u145_11, u145_14, u145_17, u145_18, u145_19, u145_22, u145_25, u145_28, u145_30, u145_31, u145_32, u145_35, u145_37, u145_40, u145_42, u145_43, u145_44, u145_47, u145_48, u145_51, u145_52, u145_53, u145_54, u145_57, u145_58, u145_61, u145_62, u145_63, u145_64, u145_67, u145_68, u145_71, u145_72, u145_73, u145_74, u145_75, u145_78, u145_79, u145_80, u145_83, u145_84, u145_87, s_mDay, s_mIn, pu_some, pu_none, b01_e0, t1, t2, t3, not_true, not_false_iff, if_false, if_true]
    · have t2 : (nI 0 ≤ y ∧ y ≤ nI 7) = False := eq_false q2
      rw [if_neg (fun u => q2 (te.mpr u).2.1)]
      simp only [u145_0, u145_1, u145_4, u145_7, u145_8, u145_9, u145_11, u145_14, u145_17, u145_18, u145_19, u145_22, u145_25, u145_28, u145_30, u145_31, u145_32, u145_35, u145_37, u145_40, u145_42, u145_43, u145_44, u145_47, u145_48, u145_51, u145_52, u145_53, u145_54, u145_57, u145_58, u145_61, u145_62, u145_63, u145_64, u145_67, u145_68, u145_71, u145_72, u145_73, u145_74, u145_75, u145_78, u145_79, u145_80, u145_83, u145_84, u145_87, s_mDay, s_mIn, pu_some, pu_none, b01_e0, t1, t2, not_true, not_false_iff, if_false, if_true]
  · have t1 : (nI 0 ≤ x ∧ x < nI 30) = False := eq_false q1
    rw [if_neg (fun u => q1 (te.mpr u).1)]
    simp only [u145_0, u145_1, u145_4, u145_7, u145_8, u145_9, u145_11, u145_14, u145_17, u145_18, u145_19, u145_22, u145_25, u145_28, u145_30, u145_31, u145_32, u145_35, u145_37, u145_40, u145_42, u145_43, u145_44, u145_47, u145_48, u145_51, u145_52, u145_53, u145_54, u145_57, u145_58, u145_61, u145_62, u145_63, u145_64, u145_67, u145_68, u145_71, u145_72, u145_73, u145_74, u145_75, u145_78, u145_79, u145_80, u145_83, u145_84, u145_87, s_mDay, s_mIn, pu_some, pu_none, b01_e0, t1, not_true, not_false_iff, if_false, if_true]
theorem tok_n {x y z : Int32} (h : (nI 0 ≤ x ∧ x < nI 30) ∧ (¬ y < nI 0 ∧ ¬ nI 8 ≤ y) ∧ (¬ z < nI 0 ∧ z ≤ nI 999)) : (x.toNatClampNeg < 30 ∧ x = nI x.toNatClampNeg) ∧ (y.toNatClampNeg < 8 ∧ y = nI y.toNatClampNeg) ∧ (z.toNatClampNeg ≤ 999 ∧ z = nI z.toNatClampNeg) := by
  obtain ⟨a, ha, rfl⟩ := P_nI h.1 (by decide)
  obtain ⟨b, hb, rfl⟩ := P_nI (show nI 0 ≤ y ∧ y < nI 8 from ⟨Int32.not_lt.mp h.2.1.1, Int32.not_le.mp h.2.1.2⟩) (by decide)
  have e9 : (z ≤ nI 999) = (z < nI 1000) := le_lt1 (by decide)
  obtain ⟨d, hd, rfl⟩ := P_nI (show nI 0 ≤ z ∧ z < nI 1000 from ⟨Int32.not_lt.mp h.2.2.1, e9 ▸ h.2.2.2⟩) (by decide)
  rw [nI_cl8 (by omega), nI_cl8 (by omega), nI_cl8 (by omega)]
  exact ⟨⟨ha, rfl⟩, ⟨hb, rfl⟩, ⟨by omega, rfl⟩⟩
theorem p_seen (h : Bs N B m) (hc : Ca N B m) {x y z : Int32} : PR S 61 145 [some (.ref 0), some (.int x), some (.int y), some (.int z)] [some (.ref 73), some (.int x), some (.int y), some (.int z)] m := by
  have hg := h.2.2.2.1
  have h8 := hg.2.1
  have e1 := fun (f : Nat) (Rt : Option Value → AMem → Prop) => s_seen (S := S) (f := f + 9) (Rt := Rt) (x := x) (y := y) (z := z) hg
  have e2 := fun (f : Nat) (Rt : Option Value → AMem → Prop) (X : AMem) (hX : X 73 27 = nI (N 4)) => s_mSeen (S := S) (f := f + 10) (Rt := Rt) (x := x) (y := y) (z := z) hX h8
  by_cases q : (nI 0 ≤ x ∧ x < nI 30) ∧ (¬ y < nI 0 ∧ ¬ nI 8 ≤ y) ∧ (¬ z < nI 0 ∧ z ≤ nI 999)
  · simp only [if_pos q] at e1 e2
    by_cases q8 : N 4 < 8
    · simp only [if_pos q8] at e1 e2
      obtain ⟨⟨a1, a2⟩, ⟨b1, b2⟩, d1, d2⟩ := tok_n q
      have h27 : putS (N 4) x y z m 73 27 = nI (N 4) := by
        unfold putS
        rw [up_row (by decide), up_row (by decide), up_row (by decide), up_row (by decide)]
        exact h.2.2.2.2.1.1
      obtain ⟨k1, k2⟩ := seen_Bs (m2 := mput (N 4) x y z (putS (N 4) x y z m)) (c := N 4 + 1) (sd := fu (B 3) (N 4) x.toNatClampNeg) (sh := fu (B 4) (N 4) y.toNatClampNeg) (su := fu (B 5) (N 4) z.toNatClampNeg) h hc (by
        refine ⟨?_, by omega, fun i hi => ?_⟩
        · unfold mput putS
          simp [up_ap]
        · unfold mput putS
          by_cases t : i = N 4
          · subst t
            rw [fu_at, fu_at, fu_at]
            simp [up_ap]
            exact ⟨a2, a1, b2, b1, d2, d1⟩
          · rw [fu_ne t, fu_ne t, fu_ne t]
            simp [up_ap, t]
            exact hg.2.2 i (by omega)) (by
        refine ⟨?_, fun i hi => ?_⟩
        · unfold mput
          rw [up_at]
        · unfold mput putS
          by_cases t : i = N 4
          · subst t
            rw [fu_at, fu_at, fu_at]
            simp [up_ap]
            exact ⟨a2, b2, d2⟩
          · rw [fu_ne t, fu_ne t, fu_ne t]
            simp [up_ap, t]
            exact h.2.2.2.2.1.2 i (by omega)) (fun a j h1 h2 h3 => by
        unfold mput putS
        rw [up_off (by omega), up_off (by omega), up_off (by omega), up_off (by omega), up_off (by omega), up_off (by omega), up_off (by omega), up_off (by omega)])
      exact ⟨_, _, _, _, _, k1, k2, e1, fun f Rt => e2 f Rt _ h27⟩
    · simp only [if_neg q8] at e1 e2
      exact pr_same h hc e1 (fun f Rt => e2 f Rt m h.2.2.2.2.1.1)
  · simp only [if_neg q] at e1 e2
    exact pr_same h hc e1 (fun f Rt => e2 f Rt m h.2.2.2.2.1.1)
theorem p_forget (h : Bs N B m) (hc : Ca N B m) : PR S 62 146 [some (.ref 0), none] [some (.ref 73), none] m := by
  have e1 := fun (f : Nat) (Rt : Option Value → AMem → Prop) => s_forgetS (S := S) (f := f + 12) (m := m) (Rt := Rt)
  have e27 : up m 60 3 (nI 0) 73 27 = m 60 3 := by rw [up_row (by decide), h.2.2.2.1.1, h.2.2.2.2.1.1]
  obtain ⟨k1, k2⟩ := seen_Bs (m2 := up (up m 60 3 (nI 0)) 73 27 (nI 0)) (c := 0) (sd := B 3) (sh := B 4) (su := B 5) h hc ⟨by rw [up_row (by decide), up_at], by omega, fun i hi => by omega⟩ ⟨up_at, fun i hi => by omega⟩ (fun a j h1 h2 h3 => by rw [up_off (by omega), up_off (by omega)])
  refine ⟨_, _, _, _, _, k1, k2, e1, fun f Rt => ?_⟩
  simp only [u146_0, u146_1, u146_4, u146_5, u146_6, u146_7, u146_10, u146_11, e27]
end UPS
