section UPD
variable {S : AScr} {m m0 m2 m3 M X : AMem} {w : AMem} {N N' : Nat → Nat} {B B' : Nat → Nat → Nat}
/-- a call on both sides -/
def PR (S : AScr) (qc qm : Nat) (ac am : ALoc) (m : AMem) : Prop := ∃ (r : Int32) (m1 m2 : AMem) (N' : Nat → Nat) (B' : Nat → Nat → Nat), Bs N' B' m2 ∧ Ca N' B' m2 ∧ (∀ (f : Nat) (Rt : Option Value → AMem → Prop), T S (f + 13) qc 0 ac [] m Rt = Rt (some (.int r)) m1) ∧ ∀ (f : Nat) (Rt : Option Value → AMem → Prop), T S (f + 13) qm 0 am [] m1 Rt = Rt (some (.int r)) m2
theorem pr_q {qc qm : Nat} {ac am : ALoc} {r : Int32} (h : Bs N B m) (c : CR S N B qc ac m (.int r)) (e : ∀ m1, Bs N B m1 → Kc m m1 → MR S qm am m1 (.int r)) : PR S qc qm ac am m := by
  obtain ⟨m1, k1, a1, e1⟩ := c
  obtain ⟨m2, k2, e2⟩ := e m1 (Bs_c h k1) k1
  exact ⟨r, m1, m2, N, B, Bs_m (Bs_c h k1) k2, Ca_m a1 k2, fun f Rt => e1 (f + 4) Rt, e2⟩
theorem pr_same {qc qm : Nat} {ac am : ALoc} {r : Int32} (h : Bs N B m) (hc : Ca N B m) (e1 : ∀ (f : Nat) (Rt : Option Value → AMem → Prop), T S (f + 13) qc 0 ac [] m Rt = Rt (some (.int r)) m) (e2 : ∀ (f : Nat) (Rt : Option Value → AMem → Prop), T S (f + 13) qm 0 am [] m Rt = Rt (some (.int r)) m) : PR S qc qm ac am m := ⟨r, m, m, N, B, h, hc, e1, e2⟩
theorem text_Bs (h : Bs N B m) (h3 : N' 3 = N 3) (h4 : N' 4 = N 4) (hB3 : B' 3 = B 3 ∧ B' 4 = B 4 ∧ B' 5 = B 5) (hT : ∀ t, t < 3 → Tx t (N' t) (B' t) m0) (hr : ∀ a, (a = 0 ∨ 8 ≤ a) → m0 a = m a) (hr2 : ∀ a, a ≠ 74 → a ≠ 75 → m2 a = tellM (N' 0) (N' 1) (N' 2) (B' 0) (B' 1) (B' 2) m0 a) (hU : ∀ t, t < 3 → Ux t (N' t) (B' t) m2) : Bs N' B' m2 ∧ Ca N' B' m2 := by
  obtain ⟨c1, c2, c3, c4, c5, c6, c7⟩ := tell_CW (m := m0) (n0 := N' 0) (n1 := N' 1) (n2 := N' 2) (b0 := B' 0) (b1 := B' 1) (b2 := B' 2) (fun i hi => ((hT 0 (by decide)).2.2 i hi).2)
  obtain ⟨g1, g2, g3, g4, g5, g6, g7⟩ := h
  have e83 : m0 8 3 = nI (N' 3) := by rw [hr 8 (by omega), h3]; exact g2.2.1
  have e84 : m0 8 4 = nI 0 := by rw [hr 8 (by omega)]; exact g2.2.2.2
  rw [e83, e84] at c1
  have row : ∀ a, 18 < a → a ≠ 74 → a ≠ 75 → m2 a = m a := fun a a1 a2 a3 => by rw [hr2 a a2 a3, c2 a (by omega) (by omega), hr a (by omega)]
  have r0 : ∀ j, j ≠ 9 ∧ j ≠ 10 → m2 0 j = m 0 j := fun j hj => by rw [hr2 0 (by decide) (by decide), c3 j hj, hr 0 (by omega)]
  refine ⟨⟨fun t ht => ⟨Tx_keep (hT t ht) (by rw [hr2 _ (by omega) (by omega), c2 _ (by omega) (by omega)]) (by rw [hr2 _ (by omega) (by omega), c2 _ (by omega) (by omega)]), hU t ht⟩, ?_, ?_, ?_, ?_, ?_, fun s hs => ?_⟩, ?_, ?_⟩
  · rw [hr2 8 (by decide) (by decide), c6, c7, row 73 (by decide) (by decide) (by decide), e83, e84, h3]
    exact ⟨g2.1, rfl, g2.2.2.1, rfl⟩
  · exact CW_keep c1 (fun a j a1 a2 => by rw [hr2 a (by omega) (by omega)])
  · rw [h4, hB3.1, hB3.2.1, hB3.2.2]
    exact Sg_far g4 (fun a j a1 a2 => by rw [row a (by omega) (by omega) (by omega)])
  · rw [h4, hB3.1, hB3.2.1, hB3.2.2, row 73 (by decide) (by decide) (by decide), row 95 (by decide) (by decide) (by decide), row 96 (by decide) (by decide) (by decide), row 97 (by decide) (by decide) (by decide)]
    exact g5
  · rw [r0 11 (by decide), row 73 (by decide) (by decide) (by decide)]
    exact g6
  · unfold ShL
    rw [row (65 + s) (by omega) (by omega) (by omega), row (69 + s) (by omega) (by omega) (by omega), row 99 (by omega) (by omega) (by omega), row 100 (by omega) (by omega) (by omega), row 101 (by omega) (by omega) (by omega), row 102 (by omega) (by omega) (by omega)]
    exact g7 s hs
  · exact Or.inl (by rw [hr2 0 (by decide) (by decide)]; exact c4)
  · exact Or.inl (by rw [hr2 0 (by decide) (by decide)]; exact c5)
def fu {α : Type} (g : Nat → α) (t : Nat) (v : α) (i : Nat) : α := if i = t then v else g i
theorem fu_at {α : Type} {g : Nat → α} {t : Nat} {v : α} : fu g t v t = v := if_pos rfl
theorem fu_ne {α : Type} {g : Nat → α} {t i : Nat} {v : α} (h : i ≠ t) : fu g t v i = g i := if_neg h
theorem fu_self {α : Type} {g : Nat → α} {t i : Nat} : fu g t (g t) i = g i := by
  unfold fu
  by_cases h : i = t
  · rw [if_pos h, h]
  · rw [if_neg h]
theorem Ux_size {t n k : Nat} {b : Nat → Nat} (h : Ux t n b m) (hk : k ≤ n) : Ux t k b (up m 74 t (nI k)) := by
  refine ⟨up_at, Nat.le_trans hk h.2.1, fun p hp => ?_⟩
  rw [up_row (by decide)]
  exact h.2.2 p (by omega)
theorem Ux_other {t t2 n : Nat} {b : Nat → Nat} {v : Int32} (h : Ux t2 n b m) (ht : t2 ≠ t) : Ux t2 n b (up m 74 t v) := by
  refine ⟨by rw [up_off (Or.inr ht)]; exact h.1, h.2.1, fun p hp => ?_⟩
  rw [up_row (by decide)]
  exact h.2.2 p hp
theorem Ux_type {t n c : Nat} {b : Nat → Nat} (h : Ux t n b m) (hn : n < tcap t) (hc : c < 256) : Ux t (n + 1) (typB b n c) (up (up m 75 (39 * t + n) (nI c)) 74 t (nI (n + 1))) := by
  refine ⟨up_at, hn, fun p hp => ?_⟩
  rw [up_row (by decide)]
  unfold typB
  by_cases z : p = n
  · subst z
    rw [up_at, if_pos rfl]
    exact ⟨rfl, hc⟩
  · rw [up_off (by omega), if_neg z]
    exact h.2.2 p (by omega)
theorem Ux_tother {t t2 n n2 c : Nat} {b : Nat → Nat} (h : Ux t2 n2 b m) (ht : t2 ≠ t) (hn : n < 39) (h2 : n2 ≤ 39) : Ux t2 n2 b (up (up m 75 (39 * t + n) (nI c)) 74 t (nI (n + 1))) := by
  refine ⟨by rw [up_off (Or.inr ht), up_row (by decide)]; exact h.1, h.2.1, fun p hp => ?_⟩
  rw [up_row (by decide), up_off (by omega)]
  exact h.2.2 p hp
theorem byte_ok {c : Int32} (h : ¬ c < nI 0 ∧ c ≤ nI 255) : ∃ k, k < 256 ∧ c = nI k := by
  have h3 : nI 0 ≤ c ∧ c < nI 256 := by
    rw [fa2_lt, fa2_le, nI_toI (by omega), nI_toI (by omega)] at h
    rw [fa2_le, fa2_lt, nI_toI (by omega), nI_toI (by omega)]
    omega
  exact P_nI h3 (by decide)
theorem Ux39 (h : Bs N B m) {t : Nat} (ht : t < 3) : N t ≤ 39 := Nat.le_trans (Bs_bd h ht).1 (tcap_le (by omega))
theorem p_type0 (h : Bs N B m) (hc : Ca N B m) {c : Nat} (hcc : c < 256) : PR S 30 87 [some (.ref 0), some (.int (nI 0)), some (.int (nI c)), none] [some (.ref 73), some (.int (nI 0)), some (.int (nI c))] m := by
  have e := fun (f : Nat) (Rt : Option Value → AMem → Prop) => s_type0 (S := S) (f := f + 1) (Rt := Rt) (h.1 0 (by decide)).1 (h.1 1 (by decide)).1 (h.1 2 (by decide)).1 hcc
  have hu := (h.1 0 (by decide)).2
  have hn39 := Ux39 h (t := 0) (by decide)
  have B3 : inB (nI 0) 3 = true := by decide
  have c3 : (nI 0).toNatClampNeg = 0 := nI_cl8 (by decide)
  have hx : (nI 0 ≤ nI 0 ∧ nI 0 < nI 3) = True := by decide
  have hb : (nI 0 ≤ nI c ∧ nI c ≤ nI 255) = True := eq_true ⟨nI_le (Nat.zero_le _) (by omega), by rw [nI_le8 (by omega) (by omega)]; omega⟩
  have hq : (nI (N 0) = nI 39) = (N 0 = 39) := nI_eq8 (by omega) (by omega)
  by_cases q : N 0 < 39
  · have hne : ¬ N 0 = 39 := by omega
    simp only [if_pos q] at e
    have hBi : inB (nI (39 * 0 + N 0)) 117 = true := inB8 (by omega) (by decide)
    have hci : (nI (39 * 0 + N 0)).toNatClampNeg = 39 * 0 + N 0 := nI_cl8 (by omega)
    have e7 : ∀ m0, tellM (N 0 + 1) (N 1) (N 2) (typB (B 0) (N 0) c) (B 1) (B 2) m0 74 0 = m0 74 0 := fun m0 => by
      rw [(tell_CW (m := m0) (fun i hi => ?_)).2.1 74 (by omega) (by decide)]
      unfold typB; split; exact hcc; exact (Bs_bd h (t := 0) (by decide)).2 i (by omega)
    have e74 := e7 (up (up m 5 (N 0) (nI c)) 2 2 (nI (N 0 + 1)))
    rw [up_row (by decide), up_row (by decide), hu.1] at e74
    have hm0 : ∀ a, (a = 0 ∨ 8 ≤ a) → up (up m 5 (N 0) (nI c)) 2 2 (nI (N 0 + 1)) a = m a := fun a ha => by rw [up_row (by omega), up_row (by omega)]
    have hT0 : Tx 0 (N 0 + 1) (typB (B 0) (N 0) c) (up (up m 5 (N 0) (nI c)) 2 2 (nI (N 0 + 1))) := Tx_type (h.1 0 (by decide)).1 q hcc (by decide)
    have hTo : ∀ u, u < 3 → u ≠ 0 → Tx u (N u) (B u) (up (up m 5 (N 0) (nI c)) 2 2 (nI (N 0 + 1))) := fun u hu hne => Tx_up (Tx_up (h.1 u hu).1 (by omega) (by omega)) (by omega) (by omega)
    generalize up (up m 5 (N 0) (nI c)) 2 2 (nI (N 0 + 1)) = m0 at *
    have r2 : ∀ a, a = 74 ∨ a = 75 → tellM (N 0 + 1) (N 1) (N 2) (typB (B 0) (N 0) c) (B 1) (B 2) m0 a = m a := fun a ha => by
      rw [(tell_CW (m := m0) (fun i hi => ?_)).2.1 a (by omega) (by omega), hm0 a (by omega)]
      unfold typB; split; exact hcc; exact (Bs_bd h (t := 0) (by decide)).2 i (by omega)
    generalize hm1 : tellM (N 0 + 1) (N 1) (N 2) (typB (B 0) (N 0) c) (B 1) (B 2) m0 = m1 at *
    have hu1 : ∀ u, u < 3 → Ux u (N u) (B u) m1 := fun u hu => Ux_keep (h.1 u hu).2 (r2 74 (by omega)) (r2 75 (by omega))
    obtain ⟨k1, k2⟩ := text_Bs (m0 := m0) (m2 := up (up m1 75 (39 * 0 + N 0) (nI c)) 74 0 (nI (N 0 + 1))) (N' := fu N 0 (N 0 + 1)) (B' := fu B 0 (typB (B 0) (N 0) c)) h rfl rfl ⟨rfl, rfl, rfl⟩ (fun u hu => by
      by_cases z : u = 0
      · subst z; exact hT0
      · rw [fu_ne z, fu_ne z]; exact hTo u hu z) hm0 (fun a a1 a2 => by
      rw [up_row a1, up_row a2, ← hm1]
      rfl) (fun u hu => by
      by_cases z : u = 0
      · subst z; exact Ux_type (hu1 0 (by decide)) q hcc
      · rw [fu_ne z, fu_ne z]; exact Ux_tother (hu1 u hu) z (by omega) (Ux39 h hu))
    refine ⟨_, m1, _, _, _, k1, k2, e, fun f Rt => ?_⟩
    simp only [u87_0, u87_1, u87_4, u87_7, u87_8, u87_9, u87_12, u87_15, u87_18, u87_20, u87_21, u87_22, u87_25, u87_26, u87_27, u87_28, u87_31, u87_33, u87_36, u87_37, u87_38, u87_41, u87_43, u87_46, u87_48, u87_51, u87_53, u87_54, u87_55, u87_58, u87_60, u87_61, u87_62, u87_63, u87_66, u87_67, u87_68, u87_69, u87_70, u87_71, u87_72, u87_75, u87_76, u87_77, u87_78, u87_79, u87_80, u87_81, u87_82, u87_85, u87_86, u87_87, s_mText, s_mIn, pu_some, pu_none, b01_e0, hx, hb, not_true, if_false, B3, c3, true_and, e74, hq, hne, if_true, nI_mul8, nI_add, hBi, hci, up_ap, upA_ap, Nat.reduceEqDiff, false_and, true_and, and_true, and_false, and_self, if_false, if_true, show ¬ nI 0 = nI 1 by decide]
  · have heq : N 0 = 39 := by
      have : N 0 ≤ 39 := (Bs_bd h (t := 0) (by decide)).1
      omega
    simp only [if_neg q] at e
    have hu1 := hu.1
    rw [heq] at hu1
    refine pr_same h hc e (fun f Rt => ?_)
    simp only [u87_0, u87_1, u87_4, u87_7, u87_8, u87_9, u87_12, u87_15, u87_18, u87_20, u87_21, u87_22, u87_25, u87_26, u87_27, u87_28, u87_31, u87_33, u87_36, u87_37, u87_38, u87_41, u87_43, u87_46, u87_48, u87_51, u87_53, u87_54, u87_55, u87_58, u87_60, u87_61, u87_62, u87_63, u87_66, u87_67, u87_68, u87_69, u87_70, u87_71, u87_72, u87_75, u87_76, u87_77, u87_78, u87_79, u87_80, u87_81, u87_82, u87_85, u87_86, u87_87, s_mText, s_mIn, pu_some, pu_none, b01_e0, hx, hb, not_true, if_false, B3, c3, true_and, hu1, if_true, show ¬ nI 0 = nI 1 by decide]
theorem p_size0 (h : Bs N B m) {k : Nat} (hk : k ≤ N 0) : tellM k (N 1) (N 2) (B 0) (B 1) (B 2) (up m 2 2 (nI k)) 74 0 = nI (N 0) ∧ Bs (fu N 0 k) B (up (tellM k (N 1) (N 2) (B 0) (B 1) (B 2) (up m 2 2 (nI k))) 74 0 (nI k)) ∧ Ca (fu N 0 k) B (up (tellM k (N 1) (N 2) (B 0) (B 1) (B 2) (up m 2 2 (nI k))) 74 0 (nI k)) := by
  have hu := (h.1 0 (by decide)).2
  have hm0 : ∀ a, (a = 0 ∨ 8 ≤ a) → up m 2 2 (nI k) a = m a := fun a ha => by rw [up_row (by omega)]
  have hT0 : Tx 0 k (B 0) (up m 2 2 (nI k)) := Tx_size (h.1 0 (by decide)).1 hk (by decide)
  have hTo : ∀ u, u < 3 → u ≠ 0 → Tx u (N u) (B u) (up m 2 2 (nI k)) := fun u hu hne => Tx_up (h.1 u hu).1 (by omega) (by omega)
  generalize up m 2 2 (nI k) = m0 at *
  have r2 : ∀ a, a = 74 ∨ a = 75 → tellM k (N 1) (N 2) (B 0) (B 1) (B 2) m0 a = m a := fun a ha => by
    rw [(tell_CW (m := m0) (fun i hi => (Bs_bd h (t := 0) (by decide)).2 i (by omega))).2.1 a (by omega) (by omega), hm0 a (by omega)]
  generalize hm1 : tellM k (N 1) (N 2) (B 0) (B 1) (B 2) m0 = m1 at *
  have hu1 : ∀ u, u < 3 → Ux u (N u) (B u) m1 := fun u hu => Ux_keep (h.1 u hu).2 (r2 74 (by omega)) (r2 75 (by omega))
  refine ⟨by rw [r2 74 (by omega)]; exact hu.1, ?_⟩
  exact text_Bs (m0 := m0) (N' := fu N 0 k) (B' := B) h rfl rfl ⟨rfl, rfl, rfl⟩ (fun u hu => by
    by_cases z : u = 0
    · subst z; exact hT0
    · rw [fu_ne z]; exact hTo u hu z) hm0 (fun a a1 a2 => by
    rw [up_row a1, ← hm1]
    rfl) (fun u hu => by
    by_cases z : u = 0
    · subst z; exact Ux_size (hu1 0 (by decide)) hk
    · rw [fu_ne z]; exact Ux_other (hu1 u hu) z)
theorem p_wipe0 (h : Bs N B m) : PR S 35 90 [some (.ref 0), some (.int (nI 0)), none] [some (.ref 73), some (.int (nI 0)), none] m := by
  obtain ⟨k0, k1, k2⟩ := p_size0 h (Nat.zero_le _)
  have B3 : inB (nI 0) 3 = true := by decide
  have c3 : (nI 0).toNatClampNeg = 0 := nI_cl8 (by decide)
  have hx : (nI 0 ≤ nI 0 ∧ nI 0 < nI 3) = True := by decide
  refine ⟨_, _, _, _, _, k1, k2, fun f Rt => s_wipe0 (S := S) (f := f + 1) (Rt := Rt) (h.1 0 (by decide)).1 (h.1 1 (by decide)).1 (h.1 2 (by decide)).1, fun f Rt => ?_⟩
  simp only [u90_0, u90_1, u90_4, u90_7, u90_9, u90_10, u90_11, u90_14, u90_15, u90_16, u90_17, u90_18, u90_21, u90_22, u90_23, u90_24, u90_25, s_mText, pu_some, pu_none, b01_e0, hx, not_true, if_false, B3, c3, true_and, k0]
theorem p_undo0 (h : Bs N B m) (hc : Ca N B m) : PR S 36 91 [some (.ref 0), some (.int (nI 0))] [some (.ref 73), some (.int (nI 0))] m := by
  have e := fun (f : Nat) (Rt : Option Value → AMem → Prop) => s_undo0 (S := S) (f := f + 1) (Rt := Rt) (h.1 0 (by decide)).1 (h.1 1 (by decide)).1 (h.1 2 (by decide)).1
  have B3 : inB (nI 0) 3 = true := by decide
  have c3 : (nI 0).toNatClampNeg = 0 := nI_cl8 (by decide)
  have hx : (nI 0 ≤ nI 0 ∧ nI 0 < nI 3) = True := by decide
  have hn39 := Ux39 h (t := 0) (by decide)
  have hq : (nI (N 0) = nI 0) = (N 0 = 0) := nI_eq8 (by omega) (by omega)
  have hu := (h.1 0 (by decide)).2
  by_cases q : N 0 = 0
  · simp only [if_pos q] at e
    have hu1 := hu.1
    rw [q] at hu1
    refine pr_same h hc e (fun f Rt => ?_)
    simp only [u91_0, u91_1, u91_4, u91_7, u91_9, u91_10, u91_11, u91_14, u91_15, u91_16, u91_19, u91_21, u91_22, u91_23, u91_26, u91_27, u91_28, u91_29, u91_30, u91_31, u91_32, u91_33, u91_36, u91_37, u91_38, s_mText, pu_some, pu_none, b01_e0, hx, not_true, if_false, B3, c3, true_and, hu1, if_true]
  · simp only [if_neg q] at e
    obtain ⟨k0, k1, k2⟩ := p_size0 h (k := N 0 - 1) (by omega)
    have hs : nI (N 0) - nI 1 = nI (N 0 - 1) := nI_sub (by omega)
    refine ⟨_, _, _, _, _, k1, k2, e, fun f Rt => ?_⟩
    simp only [u91_0, u91_1, u91_4, u91_7, u91_9, u91_10, u91_11, u91_14, u91_15, u91_16, u91_19, u91_21, u91_22, u91_23, u91_26, u91_27, u91_28, u91_29, u91_30, u91_31, u91_32, u91_33, u91_36, u91_37, u91_38, s_mText, pu_some, pu_none, b01_e0, hx, not_true, if_false, B3, c3, true_and, k0, hq, q, hs, up_ap, upA_ap, Nat.reduceEqDiff, false_and, true_and, and_true, and_false, and_self, if_false, if_true]
theorem p_type1 (h : Bs N B m) (hc : Ca N B m) {c : Nat} (hcc : c < 256) : PR S 30 87 [some (.ref 0), some (.int (nI 1)), some (.int (nI c)), none] [some (.ref 73), some (.int (nI 1)), some (.int (nI c))] m := by
  have e := fun (f : Nat) (Rt : Option Value → AMem → Prop) => s_type1 (S := S) (f := f + 1) (Rt := Rt) (h.1 0 (by decide)).1 (h.1 1 (by decide)).1 (h.1 2 (by decide)).1 hcc
  have hu := (h.1 1 (by decide)).2
  have hn39 := Ux39 h (t := 1) (by decide)
  have B3 : inB (nI 1) 3 = true := by decide
  have c3 : (nI 1).toNatClampNeg = 1 := nI_cl8 (by decide)
  have hx : (nI 0 ≤ nI 1 ∧ nI 1 < nI 3) = True := by decide
  have hb : (nI 0 ≤ nI c ∧ nI c ≤ nI 255) = True := eq_true ⟨nI_le (Nat.zero_le _) (by omega), by rw [nI_le8 (by omega) (by omega)]; omega⟩
  have hq : (nI (N 1) = nI 23) = (N 1 = 23) := nI_eq8 (by omega) (by omega)
  by_cases q : N 1 < 23
  · have hne : ¬ N 1 = 23 := by omega
    simp only [if_pos q] at e
    have hBi : inB (nI (39 * 1 + N 1)) 117 = true := inB8 (by omega) (by decide)
    have hci : (nI (39 * 1 + N 1)).toNatClampNeg = 39 * 1 + N 1 := nI_cl8 (by omega)
    have e7 : ∀ m0, tellM (N 0) (N 1 + 1) (N 2) (B 0) (typB (B 1) (N 1) c) (B 2) m0 74 1 = m0 74 1 := fun m0 => by
      rw [(tell_CW (m := m0) (fun i hi => ?_)).2.1 74 (by omega) (by decide)]
      exact (Bs_bd h (t := 0) (by decide)).2 i hi
    have e74 := e7 (up (up m 6 (N 1) (nI c)) 3 2 (nI (N 1 + 1)))
    rw [up_row (by decide), up_row (by decide), hu.1] at e74
    have hm0 : ∀ a, (a = 0 ∨ 8 ≤ a) → up (up m 6 (N 1) (nI c)) 3 2 (nI (N 1 + 1)) a = m a := fun a ha => by rw [up_row (by omega), up_row (by omega)]
    have hT0 : Tx 1 (N 1 + 1) (typB (B 1) (N 1) c) (up (up m 6 (N 1) (nI c)) 3 2 (nI (N 1 + 1))) := Tx_type (h.1 1 (by decide)).1 q hcc (by decide)
    have hTo : ∀ u, u < 3 → u ≠ 1 → Tx u (N u) (B u) (up (up m 6 (N 1) (nI c)) 3 2 (nI (N 1 + 1))) := fun u hu hne => Tx_up (Tx_up (h.1 u hu).1 (by omega) (by omega)) (by omega) (by omega)
    generalize up (up m 6 (N 1) (nI c)) 3 2 (nI (N 1 + 1)) = m0 at *
    have r2 : ∀ a, a = 74 ∨ a = 75 → tellM (N 0) (N 1 + 1) (N 2) (B 0) (typB (B 1) (N 1) c) (B 2) m0 a = m a := fun a ha => by
      rw [(tell_CW (m := m0) (fun i hi => ?_)).2.1 a (by omega) (by omega), hm0 a (by omega)]
      exact (Bs_bd h (t := 0) (by decide)).2 i hi
    generalize hm1 : tellM (N 0) (N 1 + 1) (N 2) (B 0) (typB (B 1) (N 1) c) (B 2) m0 = m1 at *
    have hu1 : ∀ u, u < 3 → Ux u (N u) (B u) m1 := fun u hu => Ux_keep (h.1 u hu).2 (r2 74 (by omega)) (r2 75 (by omega))
    obtain ⟨k1, k2⟩ := text_Bs (m0 := m0) (m2 := up (up m1 75 (39 * 1 + N 1) (nI c)) 74 1 (nI (N 1 + 1))) (N' := fu N 1 (N 1 + 1)) (B' := fu B 1 (typB (B 1) (N 1) c)) h rfl rfl ⟨rfl, rfl, rfl⟩ (fun u hu => by
      by_cases z : u = 1
      · subst z; exact hT0
      · rw [fu_ne z, fu_ne z]; exact hTo u hu z) hm0 (fun a a1 a2 => by
      rw [up_row a1, up_row a2, ← hm1]
      rfl) (fun u hu => by
      by_cases z : u = 1
      · subst z; exact Ux_type (hu1 1 (by decide)) q hcc
      · rw [fu_ne z, fu_ne z]; exact Ux_tother (hu1 u hu) z (by omega) (Ux39 h hu))
    refine ⟨_, m1, _, _, _, k1, k2, e, fun f Rt => ?_⟩
    simp only [u87_0, u87_1, u87_4, u87_7, u87_8, u87_9, u87_12, u87_15, u87_18, u87_20, u87_21, u87_22, u87_25, u87_26, u87_27, u87_28, u87_31, u87_33, u87_36, u87_37, u87_38, u87_41, u87_43, u87_46, u87_48, u87_51, u87_53, u87_54, u87_55, u87_58, u87_60, u87_61, u87_62, u87_63, u87_66, u87_67, u87_68, u87_69, u87_70, u87_71, u87_72, u87_75, u87_76, u87_77, u87_78, u87_79, u87_80, u87_81, u87_82, u87_85, u87_86, u87_87, s_mText, s_mIn, pu_some, pu_none, b01_e0, hx, hb, not_true, if_false, B3, c3, true_and, e74, hq, hne, if_true, nI_mul8, nI_add, hBi, hci, up_ap, upA_ap, Nat.reduceEqDiff, false_and, true_and, and_true, and_false, and_self, if_false, if_true, show ¬ nI 1 = nI 2 by decide, show ¬ nI 1 = nI 0 by decide]
  · have heq : N 1 = 23 := by
      have : N 1 ≤ 23 := (Bs_bd h (t := 1) (by decide)).1
      omega
    simp only [if_neg q] at e
    have hu1 := hu.1
    rw [heq] at hu1
    refine pr_same h hc e (fun f Rt => ?_)
    simp only [u87_0, u87_1, u87_4, u87_7, u87_8, u87_9, u87_12, u87_15, u87_18, u87_20, u87_21, u87_22, u87_25, u87_26, u87_27, u87_28, u87_31, u87_33, u87_36, u87_37, u87_38, u87_41, u87_43, u87_46, u87_48, u87_51, u87_53, u87_54, u87_55, u87_58, u87_60, u87_61, u87_62, u87_63, u87_66, u87_67, u87_68, u87_69, u87_70, u87_71, u87_72, u87_75, u87_76, u87_77, u87_78, u87_79, u87_80, u87_81, u87_82, u87_85, u87_86, u87_87, s_mText, s_mIn, pu_some, pu_none, b01_e0, hx, hb, not_true, if_false, B3, c3, true_and, hu1, if_true, show ¬ nI 1 = nI 2 by decide, show ¬ nI 1 = nI 0 by decide]
theorem p_size1 (h : Bs N B m) {k : Nat} (hk : k ≤ N 1) : tellM (N 0) k (N 2) (B 0) (B 1) (B 2) (up m 3 2 (nI k)) 74 1 = nI (N 1) ∧ Bs (fu N 1 k) B (up (tellM (N 0) k (N 2) (B 0) (B 1) (B 2) (up m 3 2 (nI k))) 74 1 (nI k)) ∧ Ca (fu N 1 k) B (up (tellM (N 0) k (N 2) (B 0) (B 1) (B 2) (up m 3 2 (nI k))) 74 1 (nI k)) := by
  have hu := (h.1 1 (by decide)).2
  have hm0 : ∀ a, (a = 0 ∨ 8 ≤ a) → up m 3 2 (nI k) a = m a := fun a ha => by rw [up_row (by omega)]
  have hT0 : Tx 1 k (B 1) (up m 3 2 (nI k)) := Tx_size (h.1 1 (by decide)).1 hk (by decide)
  have hTo : ∀ u, u < 3 → u ≠ 1 → Tx u (N u) (B u) (up m 3 2 (nI k)) := fun u hu hne => Tx_up (h.1 u hu).1 (by omega) (by omega)
  generalize up m 3 2 (nI k) = m0 at *
  have r2 : ∀ a, a = 74 ∨ a = 75 → tellM (N 0) k (N 2) (B 0) (B 1) (B 2) m0 a = m a := fun a ha => by
    rw [(tell_CW (m := m0) (fun i hi => (Bs_bd h (t := 0) (by decide)).2 i (by omega))).2.1 a (by omega) (by omega), hm0 a (by omega)]
  generalize hm1 : tellM (N 0) k (N 2) (B 0) (B 1) (B 2) m0 = m1 at *
  have hu1 : ∀ u, u < 3 → Ux u (N u) (B u) m1 := fun u hu => Ux_keep (h.1 u hu).2 (r2 74 (by omega)) (r2 75 (by omega))
  refine ⟨by rw [r2 74 (by omega)]; exact hu.1, ?_⟩
  exact text_Bs (m0 := m0) (N' := fu N 1 k) (B' := B) h rfl rfl ⟨rfl, rfl, rfl⟩ (fun u hu => by
    by_cases z : u = 1
    · subst z; exact hT0
    · rw [fu_ne z]; exact hTo u hu z) hm0 (fun a a1 a2 => by
    rw [up_row a1, ← hm1]
    rfl) (fun u hu => by
    by_cases z : u = 1
    · subst z; exact Ux_size (hu1 1 (by decide)) hk
    · rw [fu_ne z]; exact Ux_other (hu1 u hu) z)
theorem p_wipe1 (h : Bs N B m) : PR S 35 90 [some (.ref 0), some (.int (nI 1)), none] [some (.ref 73), some (.int (nI 1)), none] m := by
  obtain ⟨k0, k1, k2⟩ := p_size1 h (Nat.zero_le _)
  have B3 : inB (nI 1) 3 = true := by decide
  have c3 : (nI 1).toNatClampNeg = 1 := nI_cl8 (by decide)
  have hx : (nI 0 ≤ nI 1 ∧ nI 1 < nI 3) = True := by decide
  refine ⟨_, _, _, _, _, k1, k2, fun f Rt => s_wipe1 (S := S) (f := f + 1) (Rt := Rt) (h.1 0 (by decide)).1 (h.1 1 (by decide)).1 (h.1 2 (by decide)).1, fun f Rt => ?_⟩
  simp only [u90_0, u90_1, u90_4, u90_7, u90_9, u90_10, u90_11, u90_14, u90_15, u90_16, u90_17, u90_18, u90_21, u90_22, u90_23, u90_24, u90_25, s_mText, pu_some, pu_none, b01_e0, hx, not_true, if_false, B3, c3, true_and, k0]
theorem p_undo1 (h : Bs N B m) (hc : Ca N B m) : PR S 36 91 [some (.ref 0), some (.int (nI 1))] [some (.ref 73), some (.int (nI 1))] m := by
  have e := fun (f : Nat) (Rt : Option Value → AMem → Prop) => s_undo1 (S := S) (f := f + 1) (Rt := Rt) (h.1 0 (by decide)).1 (h.1 1 (by decide)).1 (h.1 2 (by decide)).1
  have B3 : inB (nI 1) 3 = true := by decide
  have c3 : (nI 1).toNatClampNeg = 1 := nI_cl8 (by decide)
  have hx : (nI 0 ≤ nI 1 ∧ nI 1 < nI 3) = True := by decide
  have hn39 := Ux39 h (t := 1) (by decide)
  have hq : (nI (N 1) = nI 0) = (N 1 = 0) := nI_eq8 (by omega) (by omega)
  have hu := (h.1 1 (by decide)).2
  by_cases q : N 1 = 0
  · simp only [if_pos q] at e
    have hu1 := hu.1
    rw [q] at hu1
    refine pr_same h hc e (fun f Rt => ?_)
    simp only [u91_0, u91_1, u91_4, u91_7, u91_9, u91_10, u91_11, u91_14, u91_15, u91_16, u91_19, u91_21, u91_22, u91_23, u91_26, u91_27, u91_28, u91_29, u91_30, u91_31, u91_32, u91_33, u91_36, u91_37, u91_38, s_mText, pu_some, pu_none, b01_e0, hx, not_true, if_false, B3, c3, true_and, hu1, if_true]
  · simp only [if_neg q] at e
    obtain ⟨k0, k1, k2⟩ := p_size1 h (k := N 1 - 1) (by omega)
    have hs : nI (N 1) - nI 1 = nI (N 1 - 1) := nI_sub (by omega)
    refine ⟨_, _, _, _, _, k1, k2, e, fun f Rt => ?_⟩
    simp only [u91_0, u91_1, u91_4, u91_7, u91_9, u91_10, u91_11, u91_14, u91_15, u91_16, u91_19, u91_21, u91_22, u91_23, u91_26, u91_27, u91_28, u91_29, u91_30, u91_31, u91_32, u91_33, u91_36, u91_37, u91_38, s_mText, pu_some, pu_none, b01_e0, hx, not_true, if_false, B3, c3, true_and, k0, hq, q, hs, up_ap, upA_ap, Nat.reduceEqDiff, false_and, true_and, and_true, and_false, and_self, if_false, if_true]
theorem p_type2 (h : Bs N B m) (hc : Ca N B m) {c : Nat} (hcc : c < 256) : PR S 30 87 [some (.ref 0), some (.int (nI 2)), some (.int (nI c)), none] [some (.ref 73), some (.int (nI 2)), some (.int (nI c))] m := by
  have e := fun (f : Nat) (Rt : Option Value → AMem → Prop) => s_type2 (S := S) (f := f + 1) (Rt := Rt) (h.1 0 (by decide)).1 (h.1 1 (by decide)).1 (h.1 2 (by decide)).1 hcc
  have hu := (h.1 2 (by decide)).2
  have hn39 := Ux39 h (t := 2) (by decide)
  have B3 : inB (nI 2) 3 = true := by decide
  have c3 : (nI 2).toNatClampNeg = 2 := nI_cl8 (by decide)
  have hx : (nI 0 ≤ nI 2 ∧ nI 2 < nI 3) = True := by decide
  have hb : (nI 0 ≤ nI c ∧ nI c ≤ nI 255) = True := eq_true ⟨nI_le (Nat.zero_le _) (by omega), by rw [nI_le8 (by omega) (by omega)]; omega⟩
  have hq : (nI (N 2) = nI 35) = (N 2 = 35) := nI_eq8 (by omega) (by omega)
  by_cases q : N 2 < 35
  · have hne : ¬ N 2 = 35 := by omega
    simp only [if_pos q] at e
    have hBi : inB (nI (39 * 2 + N 2)) 117 = true := inB8 (by omega) (by decide)
    have hci : (nI (39 * 2 + N 2)).toNatClampNeg = 39 * 2 + N 2 := nI_cl8 (by omega)
    have e7 : ∀ m0, tellM (N 0) (N 1) (N 2 + 1) (B 0) (B 1) (typB (B 2) (N 2) c) m0 74 2 = m0 74 2 := fun m0 => by
      rw [(tell_CW (m := m0) (fun i hi => ?_)).2.1 74 (by omega) (by decide)]
      exact (Bs_bd h (t := 0) (by decide)).2 i hi
    have e74 := e7 (up (up m 7 (N 2) (nI c)) 4 2 (nI (N 2 + 1)))
    rw [up_row (by decide), up_row (by decide), hu.1] at e74
    have hm0 : ∀ a, (a = 0 ∨ 8 ≤ a) → up (up m 7 (N 2) (nI c)) 4 2 (nI (N 2 + 1)) a = m a := fun a ha => by rw [up_row (by omega), up_row (by omega)]
    have hT0 : Tx 2 (N 2 + 1) (typB (B 2) (N 2) c) (up (up m 7 (N 2) (nI c)) 4 2 (nI (N 2 + 1))) := Tx_type (h.1 2 (by decide)).1 q hcc (by decide)
    have hTo : ∀ u, u < 3 → u ≠ 2 → Tx u (N u) (B u) (up (up m 7 (N 2) (nI c)) 4 2 (nI (N 2 + 1))) := fun u hu hne => Tx_up (Tx_up (h.1 u hu).1 (by omega) (by omega)) (by omega) (by omega)
    generalize up (up m 7 (N 2) (nI c)) 4 2 (nI (N 2 + 1)) = m0 at *
    have r2 : ∀ a, a = 74 ∨ a = 75 → tellM (N 0) (N 1) (N 2 + 1) (B 0) (B 1) (typB (B 2) (N 2) c) m0 a = m a := fun a ha => by
      rw [(tell_CW (m := m0) (fun i hi => ?_)).2.1 a (by omega) (by omega), hm0 a (by omega)]
      exact (Bs_bd h (t := 0) (by decide)).2 i hi
    generalize hm1 : tellM (N 0) (N 1) (N 2 + 1) (B 0) (B 1) (typB (B 2) (N 2) c) m0 = m1 at *
    have hu1 : ∀ u, u < 3 → Ux u (N u) (B u) m1 := fun u hu => Ux_keep (h.1 u hu).2 (r2 74 (by omega)) (r2 75 (by omega))
    obtain ⟨k1, k2⟩ := text_Bs (m0 := m0) (m2 := up (up m1 75 (39 * 2 + N 2) (nI c)) 74 2 (nI (N 2 + 1))) (N' := fu N 2 (N 2 + 1)) (B' := fu B 2 (typB (B 2) (N 2) c)) h rfl rfl ⟨rfl, rfl, rfl⟩ (fun u hu => by
      by_cases z : u = 2
      · subst z; exact hT0
      · rw [fu_ne z, fu_ne z]; exact hTo u hu z) hm0 (fun a a1 a2 => by
      rw [up_row a1, up_row a2, ← hm1]
      rfl) (fun u hu => by
      by_cases z : u = 2
      · subst z; exact Ux_type (hu1 2 (by decide)) q hcc
      · rw [fu_ne z, fu_ne z]; exact Ux_tother (hu1 u hu) z (by omega) (Ux39 h hu))
    refine ⟨_, m1, _, _, _, k1, k2, e, fun f Rt => ?_⟩
    simp only [u87_0, u87_1, u87_4, u87_7, u87_8, u87_9, u87_12, u87_15, u87_18, u87_20, u87_21, u87_22, u87_25, u87_26, u87_27, u87_28, u87_31, u87_33, u87_36, u87_37, u87_38, u87_41, u87_43, u87_46, u87_48, u87_51, u87_53, u87_54, u87_55, u87_58, u87_60, u87_61, u87_62, u87_63, u87_66, u87_67, u87_68, u87_69, u87_70, u87_71, u87_72, u87_75, u87_76, u87_77, u87_78, u87_79, u87_80, u87_81, u87_82, u87_85, u87_86, u87_87, s_mText, s_mIn, pu_some, pu_none, b01_e0, hx, hb, not_true, if_false, B3, c3, true_and, e74, hq, hne, if_true, nI_mul8, nI_add, hBi, hci, up_ap, upA_ap, Nat.reduceEqDiff, false_and, true_and, and_true, and_false, and_self, if_false, if_true, show ¬ nI 2 = nI 0 by decide, show ¬ nI 2 = nI 1 by decide]
  · have heq : N 2 = 35 := by
      have : N 2 ≤ 35 := (Bs_bd h (t := 2) (by decide)).1
      omega
    simp only [if_neg q] at e
    have hu1 := hu.1
    rw [heq] at hu1
    refine pr_same h hc e (fun f Rt => ?_)
    simp only [u87_0, u87_1, u87_4, u87_7, u87_8, u87_9, u87_12, u87_15, u87_18, u87_20, u87_21, u87_22, u87_25, u87_26, u87_27, u87_28, u87_31, u87_33, u87_36, u87_37, u87_38, u87_41, u87_43, u87_46, u87_48, u87_51, u87_53, u87_54, u87_55, u87_58, u87_60, u87_61, u87_62, u87_63, u87_66, u87_67, u87_68, u87_69, u87_70, u87_71, u87_72, u87_75, u87_76, u87_77, u87_78, u87_79, u87_80, u87_81, u87_82, u87_85, u87_86, u87_87, s_mText, s_mIn, pu_some, pu_none, b01_e0, hx, hb, not_true, if_false, B3, c3, true_and, hu1, if_true, show ¬ nI 2 = nI 0 by decide, show ¬ nI 2 = nI 1 by decide]
theorem p_size2 (h : Bs N B m) {k : Nat} (hk : k ≤ N 2) : tellM (N 0) (N 1) k (B 0) (B 1) (B 2) (up m 4 2 (nI k)) 74 2 = nI (N 2) ∧ Bs (fu N 2 k) B (up (tellM (N 0) (N 1) k (B 0) (B 1) (B 2) (up m 4 2 (nI k))) 74 2 (nI k)) ∧ Ca (fu N 2 k) B (up (tellM (N 0) (N 1) k (B 0) (B 1) (B 2) (up m 4 2 (nI k))) 74 2 (nI k)) := by
  have hu := (h.1 2 (by decide)).2
  have hm0 : ∀ a, (a = 0 ∨ 8 ≤ a) → up m 4 2 (nI k) a = m a := fun a ha => by rw [up_row (by omega)]
  have hT0 : Tx 2 k (B 2) (up m 4 2 (nI k)) := Tx_size (h.1 2 (by decide)).1 hk (by decide)
  have hTo : ∀ u, u < 3 → u ≠ 2 → Tx u (N u) (B u) (up m 4 2 (nI k)) := fun u hu hne => Tx_up (h.1 u hu).1 (by omega) (by omega)
  generalize up m 4 2 (nI k) = m0 at *
  have r2 : ∀ a, a = 74 ∨ a = 75 → tellM (N 0) (N 1) k (B 0) (B 1) (B 2) m0 a = m a := fun a ha => by
    rw [(tell_CW (m := m0) (fun i hi => (Bs_bd h (t := 0) (by decide)).2 i (by omega))).2.1 a (by omega) (by omega), hm0 a (by omega)]
  generalize hm1 : tellM (N 0) (N 1) k (B 0) (B 1) (B 2) m0 = m1 at *
  have hu1 : ∀ u, u < 3 → Ux u (N u) (B u) m1 := fun u hu => Ux_keep (h.1 u hu).2 (r2 74 (by omega)) (r2 75 (by omega))
  refine ⟨by rw [r2 74 (by omega)]; exact hu.1, ?_⟩
  exact text_Bs (m0 := m0) (N' := fu N 2 k) (B' := B) h rfl rfl ⟨rfl, rfl, rfl⟩ (fun u hu => by
    by_cases z : u = 2
    · subst z; exact hT0
    · rw [fu_ne z]; exact hTo u hu z) hm0 (fun a a1 a2 => by
    rw [up_row a1, ← hm1]
    rfl) (fun u hu => by
    by_cases z : u = 2
    · subst z; exact Ux_size (hu1 2 (by decide)) hk
    · rw [fu_ne z]; exact Ux_other (hu1 u hu) z)
theorem p_wipe2 (h : Bs N B m) : PR S 35 90 [some (.ref 0), some (.int (nI 2)), none] [some (.ref 73), some (.int (nI 2)), none] m := by
  obtain ⟨k0, k1, k2⟩ := p_size2 h (Nat.zero_le _)
  have B3 : inB (nI 2) 3 = true := by decide
  have c3 : (nI 2).toNatClampNeg = 2 := nI_cl8 (by decide)
  have hx : (nI 0 ≤ nI 2 ∧ nI 2 < nI 3) = True := by decide
  refine ⟨_, _, _, _, _, k1, k2, fun f Rt => s_wipe2 (S := S) (f := f + 1) (Rt := Rt) (h.1 0 (by decide)).1 (h.1 1 (by decide)).1 (h.1 2 (by decide)).1, fun f Rt => ?_⟩
  simp only [u90_0, u90_1, u90_4, u90_7, u90_9, u90_10, u90_11, u90_14, u90_15, u90_16, u90_17, u90_18, u90_21, u90_22, u90_23, u90_24, u90_25, s_mText, pu_some, pu_none, b01_e0, hx, not_true, if_false, B3, c3, true_and, k0]
theorem p_undo2 (h : Bs N B m) (hc : Ca N B m) : PR S 36 91 [some (.ref 0), some (.int (nI 2))] [some (.ref 73), some (.int (nI 2))] m := by
  have e := fun (f : Nat) (Rt : Option Value → AMem → Prop) => s_undo2 (S := S) (f := f + 1) (Rt := Rt) (h.1 0 (by decide)).1 (h.1 1 (by decide)).1 (h.1 2 (by decide)).1
  have B3 : inB (nI 2) 3 = true := by decide
  have c3 : (nI 2).toNatClampNeg = 2 := nI_cl8 (by decide)
  have hx : (nI 0 ≤ nI 2 ∧ nI 2 < nI 3) = True := by decide
  have hn39 := Ux39 h (t := 2) (by decide)
  have hq : (nI (N 2) = nI 0) = (N 2 = 0) := nI_eq8 (by omega) (by omega)
  have hu := (h.1 2 (by decide)).2
  by_cases q : N 2 = 0
  · simp only [if_pos q] at e
    have hu1 := hu.1
    rw [q] at hu1
    refine pr_same h hc e (fun f Rt => ?_)
    simp only [u91_0, u91_1, u91_4, u91_7, u91_9, u91_10, u91_11, u91_14, u91_15, u91_16, u91_19, u91_21, u91_22, u91_23, u91_26, u91_27, u91_28, u91_29, u91_30, u91_31, u91_32, u91_33, u91_36, u91_37, u91_38, s_mText, pu_some, pu_none, b01_e0, hx, not_true, if_false, B3, c3, true_and, hu1, if_true]
  · simp only [if_neg q] at e
    obtain ⟨k0, k1, k2⟩ := p_size2 h (k := N 2 - 1) (by omega)
    have hs : nI (N 2) - nI 1 = nI (N 2 - 1) := nI_sub (by omega)
    refine ⟨_, _, _, _, _, k1, k2, e, fun f Rt => ?_⟩
    simp only [u91_0, u91_1, u91_4, u91_7, u91_9, u91_10, u91_11, u91_14, u91_15, u91_16, u91_19, u91_21, u91_22, u91_23, u91_26, u91_27, u91_28, u91_29, u91_30, u91_31, u91_32, u91_33, u91_36, u91_37, u91_38, s_mText, pu_some, pu_none, b01_e0, hx, not_true, if_false, B3, c3, true_and, k0, hq, q, hs, up_ap, upA_ap, Nat.reduceEqDiff, false_and, true_and, and_true, and_false, and_self, if_false, if_true]
theorem p_type (h : Bs N B m) (hc : Ca N B m) {x c : Int32} : PR S 30 87 [some (.ref 0), some (.int x), some (.int c), none] [some (.ref 73), some (.int x), some (.int c)] m := by
  by_cases q : (nI 0 ≤ x ∧ x < nI 3) ∧ (¬ c < nI 0 ∧ c ≤ nI 255)
  · obtain ⟨k, hk, rfl⟩ := P_nI q.1 (by decide)
    obtain ⟨b, hb, rfl⟩ := byte_ok q.2
    rcases (show k = 0 ∨ k = 1 ∨ k = 2 by omega) with rfl | rfl | rfl
    · exact p_type0 h hc hb
    · exact p_type1 h hc hb
    · exact p_type2 h hc hb
  · refine pr_same h hc (fun f Rt => s_typeB (f := f + 1) q) (fun f Rt => ?_)
    by_cases h1 : nI 0 ≤ x ∧ x < nI 3
    · have h2 : (nI 0 ≤ c ∧ c ≤ nI 255) = False := eq_false (fun z => q ⟨h1, Int32.not_lt.mpr z.1, z.2⟩)
      have h1t : (nI 0 ≤ x ∧ x < nI 3) = True := eq_true h1
      simp only [u87_0, u87_1, u87_4, u87_7, u87_8, u87_9, u87_12, u87_15, u87_18, u87_20, u87_21, u87_22, u87_25, u87_26, u87_27, u87_28, u87_31, u87_33, u87_36, u87_37, u87_38, u87_41, u87_43, u87_46, u87_48, u87_51, u87_53, u87_54, u87_55, u87_58, u87_60, u87_61, u87_62, u87_63, u87_66, u87_67, u87_68, u87_69, u87_70, u87_71, u87_72, u87_75, u87_76, u87_77, u87_78, u87_79, u87_80, u87_81, u87_82, u87_85, u87_86, u87_87, s_mText, s_mIn, pu_some, pu_none, b01_e0, h1t, h2, not_true, not_false_iff, if_false, if_true]
    · have h1t : (nI 0 ≤ x ∧ x < nI 3) = False := eq_false h1
      simp only [u87_0, u87_1, u87_4, u87_7, u87_8, u87_9, u87_12, u87_15, u87_18, u87_20, u87_21, u87_22, u87_25, u87_26, u87_27, u87_28, u87_31, u87_33, u87_36, u87_37, u87_38, u87_41, u87_43, u87_46, u87_48, u87_51, u87_53, u87_54, u87_55, u87_58, u87_60, u87_61, u87_62, u87_63, u87_66, u87_67, u87_68, u87_69, u87_70, u87_71, u87_72, u87_75, u87_76, u87_77, u87_78, u87_79, u87_80, u87_81, u87_82, u87_85, u87_86, u87_87, s_mText, s_mIn, pu_some, pu_none, b01_e0, h1t, not_false_iff, if_true]
theorem p_wipe (h : Bs N B m) (hc : Ca N B m) {x : Int32} : PR S 35 90 [some (.ref 0), some (.int x), none] [some (.ref 73), some (.int x), none] m := by
  by_cases q : nI 0 ≤ x ∧ x < nI 3
  · obtain ⟨k, hk, rfl⟩ := P_nI q (by decide)
    rcases (show k = 0 ∨ k = 1 ∨ k = 2 by omega) with rfl | rfl | rfl
    · exact p_wipe0 h
    · exact p_wipe1 h
    · exact p_wipe2 h
  · refine pr_same h hc (fun f Rt => s_wipeB (f := f + 1) q) (fun f Rt => ?_)
    have h1t : (nI 0 ≤ x ∧ x < nI 3) = False := eq_false q
    simp only [u90_0, u90_1, u90_4, u90_7, u90_9, u90_10, u90_11, u90_14, u90_15, u90_16, u90_17, u90_18, u90_21, u90_22, u90_23, u90_24, u90_25, s_mText, pu_some, pu_none, b01_e0, h1t, not_false_iff, if_true]
theorem p_undo (h : Bs N B m) (hc : Ca N B m) {x : Int32} : PR S 36 91 [some (.ref 0), some (.int x)] [some (.ref 73), some (.int x)] m := by
  by_cases q : nI 0 ≤ x ∧ x < nI 3
  · obtain ⟨k, hk, rfl⟩ := P_nI q (by decide)
    rcases (show k = 0 ∨ k = 1 ∨ k = 2 by omega) with rfl | rfl | rfl
    · exact p_undo0 h hc
    · exact p_undo1 h hc
    · exact p_undo2 h hc
  · refine pr_same h hc (fun f Rt => s_undoB (f := f + 1) q) (fun f Rt => ?_)
    have h1t : (nI 0 ≤ x ∧ x < nI 3) = False := eq_false q
    simp only [u91_0, u91_1, u91_4, u91_7, u91_9, u91_10, u91_11, u91_14, u91_15, u91_16, u91_19, u91_21, u91_22, u91_23, u91_26, u91_27, u91_28, u91_29, u91_30, u91_31, u91_32, u91_33, u91_36, u91_37, u91_38, s_mText, pu_some, pu_none, b01_e0, h1t, not_false_iff, if_true]
end UPD
