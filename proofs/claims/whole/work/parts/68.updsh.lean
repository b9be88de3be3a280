section UPH
variable {S : AScr} {m m0 m1 m2 m3 M X : AMem} {w : AMem} {N N' : Nat → Nat} {B B' : Nat → Nat → Nat}
/-- only sheets and the finding have changed -/
theorem sheet_Bs (h : Bs N B m) (hc : Ca N B m) (hr : ∀ a j, ¬ (a = 0 ∧ j = 11) → ¬ (a = 73 ∧ j = 37) → ¬ (65 ≤ a ∧ a ≤ 72) → ¬ (99 ≤ a ∧ a ≤ 103) → m2 a j = m a j) (hf : m2 0 11 = m2 73 37) (hS : ∀ s, s < 4 → ShL s m2) : Bs N B m2 ∧ Ca N B m2 := by
  obtain ⟨g1, g2, g3, g4, g5, g6, g7⟩ := h
  have row : ∀ a, a ≠ 0 → a ≠ 73 → ¬ (65 ≤ a ∧ a ≤ 72) → ¬ (99 ≤ a ∧ a ≤ 103) → m2 a = m a := fun a h1 h2 h3 h4 => funext fun j => hr a j (fun z => h1 z.1) (fun z => h2 z.1) h3 h4
  refine ⟨⟨fun t ht => ?_, ?_, CW_keep g3 (fun a j a1 a2 => hr a j (by omega) (by omega) (by omega) (by omega)), Sg_far g4 (fun a j a1 a2 => hr a j (by omega) (by omega) (by omega) (by omega)), ?_, hf, hS⟩, ?_⟩
  · exact ⟨Tx_keep (g1 t ht).1 (row _ (by omega) (by omega) (by omega) (by omega)) (row _ (by omega) (by omega) (by omega) (by omega)), Ux_keep (g1 t ht).2 (row 74 (by omega) (by omega) (by omega) (by omega)) (row 75 (by omega) (by omega) (by omega) (by omega))⟩
  · rw [row 8 (by omega) (by omega) (by omega) (by omega), hr 73 15 (by omega) (by omega) (by omega) (by omega)]
    exact g2
  · rw [hr 73 27 (by omega) (by omega) (by omega) (by omega), row 95 (by omega) (by omega) (by omega) (by omega), row 96 (by omega) (by omega) (by omega) (by omega), row 97 (by omega) (by omega) (by omega) (by omega)]
    exact g5
  · have rl : ∀ a, a ≠ 0 → a < 60 → m2 a = m a := fun a h0 ha => row a h0 (by omega) (by omega) (by omega)
    unfold Ca DaysOK FatesOK Sim
    rw [hr 0 9 (by omega) (by omega) (by omega) (by omega), hr 0 10 (by omega) (by omega) (by omega) (by omega), rl (30 + 1) (by omega) (by omega), rl (30 + 2) (by omega) (by omega), rl (30 + 3) (by omega) (by omega), rl (30 + 4) (by omega) (by omega), rl (30 + 5) (by omega) (by omega), rl (30 + 7) (by omega) (by omega), rl (30 + 8) (by omega) (by omega), rl (30 + 9) (by omega) (by omega), rl 30 (by omega) (by omega), rl 40 (by omega) (by omega), rl 41 (by omega) (by omega), rl 42 (by omega) (by omega), rl 43 (by omega) (by omega), rl 58 (by omega) (by omega)]
    exact hc
theorem ShL_keep {s : Nat} (h : ShL s m) (h1 : m2 (65 + s) = m (65 + s)) (h2 : m2 (69 + s) = m (69 + s)) (h3 : m2 99 s = m 99 s) (h4 : m2 100 s = m 100 s) (h5 : m2 101 s = m 101 s) (h6 : ∀ i, i < 60 → m2 102 (60 * s + i) = m 102 (60 * s + i)) : ShL s m2 := by
  unfold ShL
  rw [h1, h2, h3, h4, h5]
  exact ⟨h.1, h.2.1, fun i hi => by rw [h6 i hi]; exact h.2.2 i hi⟩
theorem find_Bs (h : Bs N B m) (hc : Ca N B m) {v : Int32} : Bs N B (up (up m 0 11 v) 73 37 v) ∧ Ca N B (up (up m 0 11 v) 73 37 v) := by
  refine sheet_Bs h hc (fun a j h1 h2 h3 h4 => by rw [up_off (by omega), up_off (by omega)]) ?_ (fun s hs => ShL_keep (h.2.2.2.2.2.2 s hs) ?_ ?_ ?_ ?_ ?_ (fun i hi => ?_))
  · rw [up_row (by decide), up_at, up_at]
  all_goals rw [up_row (by omega), up_row (by omega)]
theorem s_meets {v : Int32} {f : Nat} {Rt : Option Value → AMem → Prop} : T S (f + 1) 149 0 [some (.ref 73), some (.int v)] [] m Rt = Rt (some (.int (-10 - v))) (up m 73 37 v) := by
  simp only [u149_0, u149_1, u149_2, u149_5, u149_7, u149_8, u149_9]
theorem pr_find {qc qm : Nat} {ac am : ALoc} {r : Int32} {v : Int32} (h : Bs N B m) (hc : Ca N B m) (e1 : ∀ (f : Nat) (Rt : Option Value → AMem → Prop), T S (f + 13) qc 0 ac [] m Rt = Rt (some (.int r)) (up m 0 11 v)) (e2 : ∀ (f : Nat) (Rt : Option Value → AMem → Prop), T S (f + 13) qm 0 am [] (up m 0 11 v) Rt = Rt (some (.int r)) (up (up m 0 11 v) 73 37 v)) : PR S qc qm ac am m := ⟨r, _, _, N, B, (find_Bs h hc).1, (find_Bs h hc).2, e1, e2⟩
theorem it_fill {a o : Nat} {v : Int32} : ∀ (n : Nat) (m : AMem), (∀ b, b ≠ a → it n (fun k m => up m a (o + k) v) m b = m b) ∧ ∀ j, it n (fun k m => up m a (o + k) v) m a j = if o ≤ j ∧ j < o + n then v else m a j := by
  intro n
  induction n with
  | zero => intro m; exact ⟨fun b _ => rfl, fun j => by rw [if_neg (by omega)]; rfl⟩
  | succ n ih =>
    intro m
    obtain ⟨i1, i2⟩ := ih m
    refine ⟨fun b hb => by rw [it_s, up_row hb, i1 b hb], fun j => ?_⟩
    rw [it_s]
    by_cases z : j = o + n
    · subst z
      rw [up_at, if_pos (by omega)]
    · rw [up_off (Or.inr z), i2 j]
      by_cases y : o ≤ j ∧ j < o + n
      · rw [if_pos y, if_pos (by omega)]
      · rw [if_neg y, if_neg (by omega)]
theorem it_fill0 {a : Nat} {v : Int32} (n : Nat) (m : AMem) : (∀ b, b ≠ a → it n (fun k m => up m a k v) m b = m b) ∧ ∀ j, it n (fun k m => up m a k v) m a j = if j < n then v else m a j := by
  have e : it n (fun k m => up m a k v) m = it n (fun k m => up m a (0 + k) v) m := it_congr (fun k _ s => by rw [Nat.zero_add]) m
  rw [e]
  obtain ⟨i1, i2⟩ := it_fill (a := a) (o := 0) (v := v) n m
  refine ⟨i1, fun j => ?_⟩
  rw [i2 j]
  by_cases z : j < n
  · rw [if_pos z, if_pos (by omega)]
  · rw [if_neg z, if_neg (by omega)]
theorem nar1 : vp_nar .boolean (nI 1) = nI 1 := by decide
theorem nar0 : vp_nar .boolean (nI 0) = nI 0 := by decide
theorem s_sheetN {s : Nat} (hs : s < 4) {fo n : Int32} {f : Nat} {Rt : Option Value → AMem → Prop} : T S (f + 3) 73 0 [some (.ref 0), some (.int (nI s)), some (.int fo), some (.int n)] [] m Rt = if (nI 0 ≤ fo ∧ fo < nI 3) ∧ n ≤ nI 60 then (if n < nI 0 then Rt (some (.int (-10 - nI 5))) (up m 0 11 (nI 5)) else Rt (some (.int n)) (renewM s fo n m)) else Rt (some (.int (-2))) m := by
  match s, hs with
  | 0, _ => exact s_sheet0
  | 1, _ => exact s_sheet1
  | 2, _ => exact s_sheet2
  | 3, _ => exact s_sheet3
theorem P60 {n : Int32} (h1 : n ≤ nI 60) (h2 : ¬ n < nI 0) : ∃ k, k ≤ 60 ∧ n = nI k := by
  have e : (n ≤ nI 60) = (n < nI 61) := le_lt1 (by decide)
  obtain ⟨k, hk, e⟩ := P_nI (show nI 0 ≤ n ∧ n < nI 61 from ⟨Int32.not_lt.mp h2, e ▸ h1⟩) (by decide)
  exact ⟨k, by omega, e⟩
set_option maxHeartbeats 1000000 in
theorem p_sheet (h : Bs N B m) (hc : Ca N B m) {x fo n : Int32} : PR S 73 164 [some (.ref 0), some (.int x), some (.int fo), some (.int n)] [some (.ref 73), some (.int x), some (.int fo), some (.int n), none] m := by
  have ef : (fo ≤ nI 2) = (fo < nI 3) := le_lt1 (by decide)
  by_cases hx : nI 0 ≤ x ∧ x < nI 4
  · obtain ⟨s, hs, rfl⟩ := P_nI hx (by decide)
    have hxt : (nI 0 ≤ nI s ∧ nI s < nI 4) = True := eq_true hx
    have e1 := fun (f : Nat) (Rt : Option Value → AMem → Prop) => s_sheetN (S := S) (f := f + 10) (m := m) (Rt := Rt) (fo := fo) (n := n) hs
    by_cases hf : nI 0 ≤ fo ∧ fo < nI 3
    · have hft : (nI 0 ≤ fo ∧ fo < nI 3) = True := eq_true hf
      by_cases hn : n ≤ nI 60
      · simp only [if_pos (show (nI 0 ≤ fo ∧ fo < nI 3) ∧ n ≤ nI 60 from ⟨hf, hn⟩)] at e1
        by_cases hn0 : n < nI 0
        · simp only [if_pos hn0] at e1
          refine pr_find h hc e1 (fun f Rt => ?_)
          simp only [u164_0, u164_1, u164_4, u164_7, u164_8, u164_9, u164_10, u164_13, u164_16, u164_17, u164_19, u164_22, u164_24, u164_25, u164_26, u164_29, u164_30, u164_31, u164_34, u164_35, u164_36, u164_39, u164_40, u164_41, u164_42, u164_43, u164_46, u164_47, u164_48, u164_49, u164_50, u164_53, u164_54, u164_55, u164_56, u164_57, u164_61, u164_63, u164_66, u164_67, u164_70, u164_72, u164_73, u164_74, u164_76, u164_77, u164_78, u164_79, u164_82, u164_85, u164_86, s_mSheet, s_mIn, s_meets, pu_some, pu_none, b01_e0, hxt, ef, hft, not_true, if_false, hn, if_true, le_n (nI 0) n, hn0]
        · simp only [if_neg hn0] at e1
          obtain ⟨k, hk, rfl⟩ := P60 hn hn0
          obtain ⟨fk, hfk, rfl⟩ := P_nI hf (by decide)
          have hB : inB (nI s) 4 = true := inB8 hs (by decide)
          have hcs : (nI s).toNatClampNeg = s := nI_cl8 (by omega)
          obtain ⟨r1, r2⟩ := it_fill0 (a := 69 + s) (v := nI 0) 60 (up (up m (65 + s) 1 (nI fk)) (65 + s) 2 (nI k))
          have hren : renewM s (nI fk) (nI k) m = it 60 (fun k m => up m (69 + s) k (nI 0)) (up (up m (65 + s) 1 (nI fk)) (65 + s) 2 (nI k)) := rfl
          rw [hren] at e1
          generalize it 60 (fun k m => up m (69 + s) k (nI 0)) (up (up m (65 + s) 1 (nI fk)) (65 + s) 2 (nI k)) = m1 at *
          obtain ⟨t1, t2⟩ := it_fill (a := 102) (o := 60 * s) (v := nI 0) 60 (up (up (up m1 99 s (nI 1)) 100 s (nI fk)) 101 s (nI k))
          have e := fun (f : Nat) (Rt : Option Value → AMem → Prop) => it_run (fun i (X : AMem) => T S (f + 13) 164 59 [some (.ref 73), some (.int (nI s)), some (.int (nI fk)), some (.int (nI k)), some (.int (nI i))] [] X Rt) (fun k m => up m 102 (60 * s + k) (nI 0)) (fun _ _ => True) 60 (fun _ _ _ _ => trivial) (fun i hi X _ => by
            have hle : ¬ 60 ≤ i := by omega
            have hB2 : inB (nI (60 * s + i)) 240 = true := inB8 (by omega) (by decide)
            have hc2 : (nI (60 * s + i)).toNatClampNeg = 60 * s + i := nI_cl8 (by omega)
            refine u164_59.trans ?_
            simp (disch := omega) only [u164_0, u164_1, u164_4, u164_7, u164_8, u164_9, u164_10, u164_13, u164_16, u164_17, u164_19, u164_22, u164_24, u164_25, u164_26, u164_29, u164_30, u164_31, u164_34, u164_35, u164_36, u164_39, u164_40, u164_41, u164_42, u164_43, u164_46, u164_47, u164_48, u164_49, u164_50, u164_53, u164_54, u164_55, u164_56, u164_57, u164_61, u164_63, u164_66, u164_67, u164_70, u164_72, u164_73, u164_74, u164_76, u164_77, u164_78, u164_79, u164_82, u164_85, u164_86, nI_le8, hle, if_false, nI_mul8, nI_add, hB2, hc2, true_and]) (up (up (up m1 99 s (nI 1)) 100 s (nI fk)) 101 s (nI k)) trivial
          generalize it 60 (fun k m => up m 102 (60 * s + k) (nI 0)) (up (up (up m1 99 s (nI 1)) 100 s (nI fk)) 101 s (nI k)) = m2 at *
          have hrow : ∀ a j, ¬ (65 ≤ a ∧ a ≤ 72) → ¬ (99 ≤ a ∧ a ≤ 103) → m2 a j = m a j := fun a j a1 a2 => by
            rw [t1 a (by omega), up_row (by omega), up_row (by omega), up_row (by omega), r1 a (by omega), up_row (by omega), up_row (by omega)]
          obtain ⟨k1, k2⟩ := sheet_Bs (m2 := m2) h hc (fun a j _ _ a3 a4 => hrow a j a3 a4) (by rw [hrow 0 11 (by omega) (by omega), hrow 73 37 (by omega) (by omega)]; exact h.2.2.2.2.2.1) (fun s2 hs2 => by
            by_cases z : s2 = s
            · subst z
              refine ⟨⟨k, hk, ?_, ?_⟩, Or.inr ⟨fk, hfk, ?_, ?_, ?_⟩, fun i hi => ?_⟩
              · rw [t1 _ (by omega), up_row (by omega), up_row (by omega), up_row (by omega), r1 _ (by omega), up_at]
              · rw [t1 _ (by omega), up_at]
              · rw [t1 _ (by omega), up_row (by omega), up_row (by omega), up_row (by omega), r1 _ (by omega), up_off (by omega), up_at]
              · rw [t1 _ (by omega), up_row (by omega), up_row (by omega), up_at]
              · rw [t1 _ (by omega), up_row (by omega), up_at]
              · rw [t2, if_pos (by omega), t1 _ (by omega), up_row (by omega), up_row (by omega), up_row (by omega), r2, if_pos hi]
            · refine ShL_keep (h.2.2.2.2.2.2 s2 hs2) ?_ ?_ ?_ ?_ ?_ (fun i hi => ?_)
              · rw [t1 _ (by omega), up_row (by omega), up_row (by omega), up_row (by omega), r1 _ (by omega), up_row (by omega), up_row (by omega)]
              · rw [t1 _ (by omega), up_row (by omega), up_row (by omega), up_row (by omega), r1 _ (by omega), up_row (by omega), up_row (by omega)]
              · rw [t1 _ (by omega), up_row (by omega), up_row (by omega), up_off (by omega), r1 _ (by omega), up_row (by omega), up_row (by omega)]
              · rw [t1 _ (by omega), up_row (by omega), up_off (by omega), up_row (by omega), r1 _ (by omega), up_row (by omega), up_row (by omega)]
              · rw [t1 _ (by omega), up_off (by omega), up_row (by omega), up_row (by omega), r1 _ (by omega), up_row (by omega), up_row (by omega)]
              · rw [t2, if_neg (by omega), up_row (by omega), up_row (by omega), up_row (by omega), r1 _ (by omega), up_row (by omega), up_row (by omega)])
          refine ⟨_, m1, m2, N, B, k1, k2, e1, fun f Rt => ?_⟩
          refine Eq.trans ?_ ((e f Rt).trans ?_)
          · simp only [u164_0, u164_1, u164_4, u164_7, u164_8, u164_9, u164_10, u164_13, u164_16, u164_17, u164_19, u164_22, u164_24, u164_25, u164_26, u164_29, u164_30, u164_31, u164_34, u164_35, u164_36, u164_39, u164_40, u164_41, u164_42, u164_43, u164_46, u164_47, u164_48, u164_49, u164_50, u164_53, u164_54, u164_55, u164_56, u164_57, u164_61, u164_63, u164_66, u164_67, u164_70, u164_72, u164_73, u164_74, u164_76, u164_77, u164_78, u164_79, u164_82, u164_85, u164_86, s_mSheet, s_mIn, pu_some, pu_none, b01_e0, hxt, ef, hft, not_true, if_false, hn, if_true, le_n (nI 0) (nI k), hn0, not_false_iff, hB, hcs, true_and, nar1]
          · refine u164_59.trans ?_
            simp (disch := omega) only [u164_0, u164_1, u164_4, u164_7, u164_8, u164_9, u164_10, u164_13, u164_16, u164_17, u164_19, u164_22, u164_24, u164_25, u164_26, u164_29, u164_30, u164_31, u164_34, u164_35, u164_36, u164_39, u164_40, u164_41, u164_42, u164_43, u164_46, u164_47, u164_48, u164_49, u164_50, u164_53, u164_54, u164_55, u164_56, u164_57, u164_61, u164_63, u164_66, u164_67, u164_70, u164_72, u164_73, u164_74, u164_76, u164_77, u164_78, u164_79, u164_82, u164_85, u164_86, nI_le8, Nat.le_refl, if_true]
      · simp only [if_neg (fun z : (nI 0 ≤ fo ∧ fo < nI 3) ∧ n ≤ nI 60 => hn z.2)] at e1
        refine pr_same h hc e1 (fun f Rt => ?_)
        simp only [u164_0, u164_1, u164_4, u164_7, u164_8, u164_9, u164_10, u164_13, u164_16, u164_17, u164_19, u164_22, u164_24, u164_25, u164_26, u164_29, u164_30, u164_31, u164_34, u164_35, u164_36, u164_39, u164_40, u164_41, u164_42, u164_43, u164_46, u164_47, u164_48, u164_49, u164_50, u164_53, u164_54, u164_55, u164_56, u164_57, u164_61, u164_63, u164_66, u164_67, u164_70, u164_72, u164_73, u164_74, u164_76, u164_77, u164_78, u164_79, u164_82, u164_85, u164_86, s_mSheet, s_mIn, pu_some, pu_none, b01_e0, hxt, ef, hft, not_true, if_false, hn]
    · simp only [if_neg (fun z : (nI 0 ≤ fo ∧ fo < nI 3) ∧ n ≤ nI 60 => hf z.1)] at e1
      have hft : (nI 0 ≤ fo ∧ fo < nI 3) = False := eq_false hf
      refine pr_same h hc e1 (fun f Rt => ?_)
      simp only [u164_0, u164_1, u164_4, u164_7, u164_8, u164_9, u164_10, u164_13, u164_16, u164_17, u164_19, u164_22, u164_24, u164_25, u164_26, u164_29, u164_30, u164_31, u164_34, u164_35, u164_36, u164_39, u164_40, u164_41, u164_42, u164_43, u164_46, u164_47, u164_48, u164_49, u164_50, u164_53, u164_54, u164_55, u164_56, u164_57, u164_61, u164_63, u164_66, u164_67, u164_70, u164_72, u164_73, u164_74, u164_76, u164_77, u164_78, u164_79, u164_82, u164_85, u164_86, s_mSheet, s_mIn, pu_some, pu_none, b01_e0, hxt, ef, hft, not_true, not_false_iff, if_false, if_true]
  · have hxt : (nI 0 ≤ x ∧ x < nI 4) = False := eq_false hx
    refine pr_same h hc (fun f Rt => s_sheetB (f := f + 10) hx) (fun f Rt => ?_)
    simp only [u164_0, u164_1, u164_4, u164_7, u164_8, u164_9, u164_10, u164_13, u164_16, u164_17, u164_19, u164_22, u164_24, u164_25, u164_26, u164_29, u164_30, u164_31, u164_34, u164_35, u164_36, u164_39, u164_40, u164_41, u164_42, u164_43, u164_46, u164_47, u164_48, u164_49, u164_50, u164_53, u164_54, u164_55, u164_56, u164_57, u164_61, u164_63, u164_66, u164_67, u164_70, u164_72, u164_73, u164_74, u164_76, u164_77, u164_78, u164_79, u164_82, u164_85, u164_86, s_mSheet, pu_some, pu_none, b01_e0, hxt, not_false_iff, if_true]
theorem s_loseN {s : Nat} (hs : s < 4) {f : Nat} {Rt : Option Value → AMem → Prop} : T S (f + 3) 74 0 [some (.ref 0), some (.int (nI s))] [] m Rt = if m (65 + s) 1 = -1 then Rt (some (.int (-10 - nI 1))) (up m 0 11 (nI 1)) else Rt (some (.int (m (65 + s) 2))) (up m (65 + s) 1 (-1)) := by
  match s, hs with
  | 0, _ => exact s_lose0
  | 1, _ => exact s_lose1
  | 2, _ => exact s_lose2
  | 3, _ => exact s_lose3
theorem lost_e {s : Nat} (h : ShL s m) : (m 99 s = nI 0) = (m (65 + s) 1 = -1) := by
  rcases h.2.1 with ⟨a, b⟩ | ⟨fo, hfo, a, b, c⟩
  · rw [a, b]; simp
  · rw [a, b, nI_ne1 (by omega)]
    simp
    decide
theorem p_lose (h : Bs N B m) (hc : Ca N B m) {x : Int32} : PR S 74 165 [some (.ref 0), some (.int x)] [some (.ref 73), some (.int x)] m := by
  by_cases hx : nI 0 ≤ x ∧ x < nI 4
  · obtain ⟨s, hs, rfl⟩ := P_nI hx (by decide)
    have hxt : (nI 0 ≤ nI s ∧ nI s < nI 4) = True := eq_true hx
    have e1 := fun (f : Nat) (Rt : Option Value → AMem → Prop) => s_loseN (S := S) (f := f + 10) (m := m) (Rt := Rt) hs
    have hB : inB (nI s) 4 = true := inB8 hs (by decide)
    have hcs : (nI s).toNatClampNeg = s := nI_cl8 (by omega)
    have hsh := h.2.2.2.2.2.2 s hs
    have hl := lost_e hsh
    obtain ⟨⟨n, hn, a1, a2⟩, _, a3⟩ := hsh
    by_cases q : m (65 + s) 1 = -1
    · simp only [if_pos q] at e1
      have hl2 : (m 99 s = nI 0) = True := by rw [hl]; exact eq_true q
      refine pr_find h hc e1 (fun f Rt => ?_)
      simp only [u165_0, u165_1, u165_4, u165_7, u165_9, u165_10, u165_11, u165_14, u165_15, u165_16, u165_19, u165_20, u165_21, u165_24, u165_25, u165_26, u165_29, u165_30, u165_31, u165_32, u165_33, u165_36, u165_37, u165_38, s_mSheet, s_meets, pu_some, pu_none, b01_e0, hxt, not_true, if_false, hB, hcs, true_and, up_row (show (99 : Nat) ≠ 0 by decide), hl2, if_true]
    · simp only [if_neg q] at e1
      have hl2 : (m 99 s = nI 0) = False := by rw [hl]; exact eq_false q
      have row : ∀ a, ¬ (65 ≤ a ∧ a ≤ 72) → a ≠ 99 → up (up m (65 + s) 1 (-1)) 99 s (nI 0) a = m a := fun a h1 h2 => by rw [up_row h2, up_row (by omega)]
      obtain ⟨k1, k2⟩ := sheet_Bs (m2 := up (up m (65 + s) 1 (-1)) 99 s (nI 0)) h hc (fun a j _ _ b3 b4 => by rw [row a b3 (by omega)]) (by rw [row 0 (by omega) (by omega), row 73 (by omega) (by omega)]; exact h.2.2.2.2.2.1) (fun s2 hs2 => by
        by_cases z : s2 = s
        · subst z
          refine ⟨⟨n, hn, ?_, ?_⟩, Or.inl ⟨?_, up_at⟩, fun i hi => ?_⟩
          · rw [up_row (by omega), up_off (by omega)]; exact a1
          · rw [row 101 (by omega) (by omega)]; exact a2
          · rw [up_row (by omega), up_at]
          · rw [up_row (by omega), up_row (by omega), up_row (by omega), up_row (by omega)]; exact a3 i hi
        · refine ShL_keep (h.2.2.2.2.2.2 s2 hs2) ?_ ?_ ?_ ?_ ?_ (fun i hi => ?_)
          · rw [up_row (by omega), up_row (by omega)]
          · rw [up_row (by omega), up_row (by omega)]
          · rw [up_off (by omega), up_row (by omega)]
          · rw [row 100 (by omega) (by omega)]
          · rw [row 101 (by omega) (by omega)]
          · rw [row 102 (by omega) (by omega)])
      refine ⟨_, _, _, N, B, k1, k2, e1, fun f Rt => ?_⟩
      have h99 : ¬ (99 : Nat) = 65 + s := by omega
      have h101 : ¬ (101 : Nat) = 65 + s := by omega
      simp only [u165_0, u165_1, u165_4, u165_7, u165_9, u165_10, u165_11, u165_14, u165_15, u165_16, u165_19, u165_20, u165_21, u165_24, u165_25, u165_26, u165_29, u165_30, u165_31, u165_32, u165_33, u165_36, u165_37, u165_38, s_mSheet, pu_some, pu_none, b01_e0, hxt, not_true, if_false, hB, hcs, true_and, up_row h99, up_row h101, up_row (show (101 : Nat) ≠ 99 by decide), hl2, nar0, a1, a2]
  · have hxt : (nI 0 ≤ x ∧ x < nI 4) = False := eq_false hx
    refine pr_same h hc (fun f Rt => s_loseB (f := f + 10) hx) (fun f Rt => ?_)
    simp only [u165_0, u165_1, u165_4, u165_7, u165_9, u165_10, u165_11, u165_14, u165_15, u165_16, u165_19, u165_20, u165_21, u165_24, u165_25, u165_26, u165_29, u165_30, u165_31, u165_32, u165_33, u165_36, u165_37, u165_38, s_mSheet, pu_some, pu_none, b01_e0, hxt, not_false_iff, if_true]
end UPH
