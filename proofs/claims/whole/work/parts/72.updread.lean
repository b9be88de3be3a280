section UPR
variable {S : AScr} {m m0 m1 m2 m3 M X : AMem} {N N' : Nat → Nat} {B B' : Nat → Nat → Nat}
theorem s_readLN {s : Nat} (hs : s < 4) (h : m (65 + s) 1 = -1) {f : Nat} {Rt : Option Value → AMem → Prop} : T S (f + 4) 63 0 [some (.ref 0), some (.int (nI s)), none, none, none] [] m Rt = Rt (some (.int (-10 - nI 1))) (up m 0 11 (nI 1)) := by
  match s, hs with
  | 0, _ => exact s_readN0 h
  | 1, _ => exact s_readN1 h
  | 2, _ => exact s_readN2 h
  | 3, _ => exact s_readN3 h
theorem s_readL {s : Nat} (hs : s < 4) (h : ¬ m (65 + s) 1 = -1) {c : Nat} (hm : m 60 3 = nI c) (hc : c ≤ 8) {f : Nat} {Rt : Option Value → AMem → Prop} : T S (f + 4) 63 0 [some (.ref 0), some (.int (nI s)), none, none, none] [] m Rt = Rt (some (.int (nI (readR s 20 0 c m).1))) (readR s 20 0 c m).2 := by
  match s, hs with
  | 0, _ => exact s_read0 h hm hc
  | 1, _ => exact s_read1 h hm hc
  | 2, _ => exact s_read2 h hm hc
  | 3, _ => exact s_read3 h hm hc
/-- three items as they are seen -/
def trP (s p : Nat) (m : AMem) : Prop := (nI 0 ≤ m (69 + s) p ∧ m (69 + s) p < nI 30) ∧ (¬ m (69 + s) (p + 1) < nI 0 ∧ ¬ nI 8 ≤ m (69 + s) (p + 1)) ∧ (¬ m (69 + s) (p + 2) < nI 0 ∧ m (69 + s) (p + 2) ≤ nI 999)
theorem read_spec {s : Nat} : ∀ (r i c : Nat) (m : AMem), m 60 3 = nI c → c ≤ 8 → ∃ k M, readR s r i c m = (k, M) ∧ k ≤ r ∧ c + k ≤ 8 ∧ M 60 3 = nI (c + k) ∧ (∀ a j, ¬ (60 ≤ a ∧ a ≤ 63) → M a j = m a j) ∧ (∀ j, j < k → M 61 (c + j) = m (69 + s) (i + 3 * j) ∧ M 62 (c + j) = m (69 + s) (i + 3 * j + 1) ∧ M 63 (c + j) = m (69 + s) (i + 3 * j + 2)) ∧ (∀ j, j < c → M 61 j = m 61 j ∧ M 62 j = m 62 j ∧ M 63 j = m 63 j) ∧ (∀ j, j < k → nI (i + 3 * j + 2) < m (65 + s) 2 ∧ trP s (i + 3 * j) m) ∧ (k < r → ¬ (nI (i + 3 * k + 2) < m (65 + s) 2 ∧ trP s (i + 3 * k) m ∧ c + k < 8)) := by
  intro r
  induction r with
  | zero =>
    intro i c m hm hc
    exact ⟨0, m, rfl, Nat.le_refl _, by omega, hm, fun a j _ => rfl, fun j hj => by omega, fun j _ => ⟨rfl, rfl, rfl⟩, fun j hj => by omega, fun z => by omega⟩
  | succ r ih =>
    intro i c m hm hc
    unfold readR
    by_cases q : nI (i + 2) < m (65 + s) 2 ∧ ((nI 0 ≤ m (69 + s) i ∧ m (69 + s) i < nI 30) ∧ (¬ m (69 + s) (i + 1) < nI 0 ∧ ¬ nI 8 ≤ m (69 + s) (i + 1)) ∧ (¬ m (69 + s) (i + 2) < nI 0 ∧ m (69 + s) (i + 2) ≤ nI 999)) ∧ c < 8
    · rw [if_pos q]
      have pr : ∀ a j, ¬ (60 ≤ a ∧ a ≤ 63) → putS c (m (69 + s) i) (m (69 + s) (i + 1)) (m (69 + s) (i + 2)) m a j = m a j := fun a j ha => by
        unfold putS
        rw [up_off (by omega), up_off (by omega), up_off (by omega), up_off (by omega)]
      have pc : putS c (m (69 + s) i) (m (69 + s) (i + 1)) (m (69 + s) (i + 2)) m 61 c = m (69 + s) i ∧ putS c (m (69 + s) i) (m (69 + s) (i + 1)) (m (69 + s) (i + 2)) m 62 c = m (69 + s) (i + 1) ∧ putS c (m (69 + s) i) (m (69 + s) (i + 1)) (m (69 + s) (i + 2)) m 63 c = m (69 + s) (i + 2) := by
        unfold putS
        simp [up_ap]
      have po : ∀ j, j < c → putS c (m (69 + s) i) (m (69 + s) (i + 1)) (m (69 + s) (i + 2)) m 61 j = m 61 j ∧ putS c (m (69 + s) i) (m (69 + s) (i + 1)) (m (69 + s) (i + 2)) m 62 j = m 62 j ∧ putS c (m (69 + s) i) (m (69 + s) (i + 1)) (m (69 + s) (i + 2)) m 63 j = m 63 j := fun j hj => by
        have : ¬ j = c := by omega
        unfold putS
        simp [up_ap, this]
      obtain ⟨k, M, e, b1, b2, b3, b4, b5, b6, b7, b8⟩ := ih (i + 3) (c + 1) _ putS_c (by omega)
      generalize putS c (m (69 + s) i) (m (69 + s) (i + 1)) (m (69 + s) (i + 2)) m = P at *
      rw [e]
      refine ⟨k + 1, M, rfl, by omega, by omega, by rw [b3]; congr 1; omega, fun a j ha => (b4 a j ha).trans (pr a j ha), fun j hj => ?_, fun j hj => ?_, fun j hj => ?_, fun z => ?_⟩
      · by_cases y : j = 0
        · subst y
          obtain ⟨d1, d2, d3⟩ := b6 c (by omega)
          rw [Nat.add_zero, Nat.mul_zero, Nat.add_zero, d1, d2, d3]
          exact pc
        · obtain ⟨d1, d2, d3⟩ := b5 (j - 1) (by omega)
          rw [show c + 1 + (j - 1) = c + j by omega, show i + 3 + 3 * (j - 1) = i + 3 * j by omega] at d1 d2 d3
          rw [d1, d2, d3, pr _ _ (by omega), pr _ _ (by omega), pr _ _ (by omega)]
          exact ⟨rfl, rfl, rfl⟩
      · obtain ⟨d1, d2, d3⟩ := b6 j (by omega)
        rw [d1, d2, d3]
        exact po j hj
      · by_cases y : j = 0
        · subst y
          rw [Nat.mul_zero, Nat.add_zero]
          exact ⟨q.1, q.2.1⟩
        · have := b7 (j - 1) (by omega)
          unfold trP at this ⊢
          rw [show i + 3 + 3 * (j - 1) = i + 3 * j by omega, pr _ _ (by omega), pr _ _ (by omega), pr _ _ (by omega), pr _ _ (by omega)] at this
          exact this
      · have := b8 (by omega)
        unfold trP at this ⊢
        rw [show i + 3 + 3 * k = i + 3 * (k + 1) by omega, pr _ _ (by omega), pr _ _ (by omega), pr _ _ (by omega), pr _ _ (by omega), show c + 1 + k = c + (k + 1) by omega] at this
        exact this
    · rw [if_neg q]
      refine ⟨0, m, rfl, Nat.zero_le _, by omega, by rw [Nat.add_zero]; exact hm, fun a j _ => rfl, fun j hj => by omega, fun j _ => ⟨rfl, rfl, rfl⟩, fun j hj => by omega, fun _ z => q ?_⟩
      rw [Nat.mul_zero, Nat.add_zero, Nat.add_zero] at z
      exact z
set_option maxHeartbeats 1000000 in
theorem p_read (h : Bs N B m) (hc : Ca N B m) {x : Int32} : PR S 63 147 [some (.ref 0), some (.int x), none, none, none] [some (.ref 73), some (.int x), none] m := by
  by_cases hx : nI 0 ≤ x ∧ x < nI 4
  · obtain ⟨s, hs, rfl⟩ := P_nI hx (by decide)
    have hxt : (nI 0 ≤ nI s ∧ nI s < nI 4) = True := eq_true hx
    have hBs : inB (nI s) 4 = true := inB8 hs (by decide)
    have hcs : (nI s).toNatClampNeg = s := nI_cl8 (by omega)
    have hsh := h.2.2.2.2.2.2 s hs
    have hl := lost_e hsh
    obtain ⟨⟨n, hn, a1, a2⟩, hfm, a3⟩ := hsh
    by_cases q : m (65 + s) 1 = -1
    · have hl2 : (m 99 s = nI 0) = True := by rw [hl]; exact eq_true q
      refine pr_find h hc (fun f Rt => s_readLN (f := f + 9) hs q) (fun f Rt => ?_)
      simp only [u147_0, u147_1, u147_4, u147_7, u147_9, u147_10, u147_11, u147_14, u147_15, u147_16, u147_19, u147_20, u147_21, u147_24, u147_25, u147_26, u147_28, u147_29, u147_30, u147_31, u147_32, u147_33, u147_36, u147_37, u147_38, u147_41, u147_42, u147_43, u147_46, u147_48, u147_49, u147_50, u147_51, u147_52, u147_53, u147_54, u147_55, u147_56, u147_59, u147_61, u147_62, u147_63, u147_64, u147_65, u147_66, u147_67, u147_68, u147_69, u147_70, u147_71, u147_74, u147_76, u147_77, u147_78, u147_79, u147_80, u147_81, u147_82, u147_83, u147_84, u147_85, u147_88, u147_91, u147_94, u147_97, u147_98, s_mSheet, s_meets, pu_some, pu_none, b01_e0, hxt, not_true, if_false, hBs, hcs, true_and, up_row (show (99 : Nat) ≠ 0 by decide), hl2, if_true]
    · have hl2 : (m 99 s = nI 0) = False := by rw [hl]; exact eq_false q
      have hg := h.2.2.2.1
      obtain ⟨s1, s2⟩ := h.2.2.2.2.1
      have hc8 := hg.2.1
      have e1 := fun (f : Nat) (Rt : Option Value → AMem → Prop) => s_readL (S := S) (f := f + 9) (Rt := Rt) hs q hg.1 hc8
      obtain ⟨k, m1, e, b1, b2, b3, b4, b5, b6, b7, b8⟩ := read_spec (s := s) 20 0 (N 4) m hg.1 hc8
      rw [e] at e1
      dsimp only at e1
      simp only [Nat.zero_add] at b5 b7 b8
      -- the model's memory when n are taken
      have item : ∀ p, p < 60 → m1 102 (60 * s + p) = m (69 + s) p := fun p hp => by rw [b4 _ _ (by omega)]; exact (a3 p hp).symm
      have st : ∀ r nn X, nn + r = k → X 73 27 = nI (N 4 + nn) → (∀ a j, ¬ (95 ≤ a ∧ a ≤ 97) → ¬ (a = 73 ∧ j = 27) → X a j = m1 a j) → (∀ j, j < nn → X 95 (N 4 + j) = m (69 + s) (3 * j) ∧ X 96 (N 4 + j) = m (69 + s) (3 * j + 1) ∧ X 97 (N 4 + j) = m (69 + s) (3 * j + 2)) → (∀ j, j < N 4 → X 95 j = m 95 j ∧ X 96 j = m 96 j ∧ X 97 j = m 97 j) → ∃ Z, Z 73 27 = nI (N 4 + k) ∧ (∀ a j, ¬ (95 ≤ a ∧ a ≤ 97) → ¬ (a = 73 ∧ j = 27) → Z a j = m1 a j) ∧ (∀ j, j < k → Z 95 (N 4 + j) = m (69 + s) (3 * j) ∧ Z 96 (N 4 + j) = m (69 + s) (3 * j + 1) ∧ Z 97 (N 4 + j) = m (69 + s) (3 * j + 2)) ∧ (∀ j, j < N 4 → Z 95 j = m 95 j ∧ Z 96 j = m 96 j ∧ Z 97 j = m 97 j) ∧ ∀ (f : Nat) (Rt : Option Value → AMem → Prop), T S (f + 13) 147 27 [some (.ref 73), some (.int (nI s)), some (.int (nI nn))] [] X Rt = Rt (some (.int (nI k))) Z := by
        intro r
        induction r with
        | zero =>
          intro nn X hnn h1 h2 h3 h4
          have : nn = k := by omega
          subst this
          refine ⟨X, h1, h2, h3, h4, fun f Rt => u147_27.trans ?_⟩
          have x101 : X 101 s = nI n := by rw [h2 _ _ (by omega) (by omega), b4 _ _ (by omega)]; exact a2
          by_cases w : n ≤ 3 * nn + 2
          · simp (disch := omega) only [u147_0, u147_1, u147_4, u147_7, u147_9, u147_10, u147_11, u147_14, u147_15, u147_16, u147_19, u147_20, u147_21, u147_24, u147_25, u147_26, u147_28, u147_29, u147_30, u147_31, u147_32, u147_33, u147_36, u147_37, u147_38, u147_41, u147_42, u147_43, u147_46, u147_48, u147_49, u147_50, u147_51, u147_52, u147_53, u147_54, u147_55, u147_56, u147_59, u147_61, u147_62, u147_63, u147_64, u147_65, u147_66, u147_67, u147_68, u147_69, u147_70, u147_71, u147_74, u147_76, u147_77, u147_78, u147_79, u147_80, u147_81, u147_82, u147_83, u147_84, u147_85, u147_88, u147_91, u147_94, u147_97, u147_98, nI_mul8, nI_add, hBs, hcs, true_and, x101, nI_le8, w, if_true]
          · have hB0 : inB (nI (60 * s + 3 * nn)) 240 = true := inB8 (by omega) (by decide)
            have hc0 : (nI (60 * s + 3 * nn)).toNatClampNeg = 60 * s + 3 * nn := nI_cl8 (by omega)
            have hB1 : inB (nI (60 * s + 3 * nn + 1)) 240 = true := inB8 (by omega) (by decide)
            have hc1 : (nI (60 * s + 3 * nn + 1)).toNatClampNeg = 60 * s + 3 * nn + 1 := nI_cl8 (by omega)
            have hB2 : inB (nI (60 * s + 3 * nn + 2)) 240 = true := inB8 (by omega) (by decide)
            have hc2 : (nI (60 * s + 3 * nn + 2)).toNatClampNeg = 60 * s + 3 * nn + 2 := nI_cl8 (by omega)
            have i0 : X 102 (60 * s + 3 * nn) = m (69 + s) (3 * nn) := by rw [h2 _ _ (by omega) (by omega)]; exact item _ (by omega)
            have i1 : X 102 (60 * s + 3 * nn + 1) = m (69 + s) (3 * nn + 1) := by rw [h2 _ _ (by omega) (by omega)]; exact item (3 * nn + 1) (by omega)
            have i2 : X 102 (60 * s + 3 * nn + 2) = m (69 + s) (3 * nn + 2) := by rw [h2 _ _ (by omega) (by omega)]; exact item (3 * nn + 2) (by omega)
            have hsee := fun (f : Nat) (Rt : Option Value → AMem → Prop) => s_mSeen (S := S) (f := f) (Rt := Rt) (x := m (69 + s) (3 * nn)) (y := m (69 + s) (3 * nn + 1)) (z := m (69 + s) (3 * nn + 2)) h1 (show N 4 + nn ≤ 8 by omega)
            have hno := b8 (by omega)
            have hlt : nI (3 * nn + 2) < m (65 + s) 2 := by rw [a1, nI_lt8 (by omega) (by omega)]; omega
            by_cases tr : trP s (3 * nn) m
            · have h8 : ¬ N 4 + nn < 8 := fun z => hno ⟨hlt, tr, z⟩
              unfold trP at tr
              have hsee : ∀ (f : Nat) (Rt : Option Value → AMem → Prop), T S (f + 3) 145 0 [some (.ref 73), some (.int (m (69 + s) (3 * nn))), some (.int (m (69 + s) (3 * nn + 1))), some (.int (m (69 + s) (3 * nn + 2)))] [] X Rt = Rt (some (.int (-4))) X := fun f Rt => (hsee f Rt).trans (by rw [if_pos tr, if_neg h8])
              simp (disch := omega) only [u147_0, u147_1, u147_4, u147_7, u147_9, u147_10, u147_11, u147_14, u147_15, u147_16, u147_19, u147_20, u147_21, u147_24, u147_25, u147_26, u147_28, u147_29, u147_30, u147_31, u147_32, u147_33, u147_36, u147_37, u147_38, u147_41, u147_42, u147_43, u147_46, u147_48, u147_49, u147_50, u147_51, u147_52, u147_53, u147_54, u147_55, u147_56, u147_59, u147_61, u147_62, u147_63, u147_64, u147_65, u147_66, u147_67, u147_68, u147_69, u147_70, u147_71, u147_74, u147_76, u147_77, u147_78, u147_79, u147_80, u147_81, u147_82, u147_83, u147_84, u147_85, u147_88, u147_91, u147_94, u147_97, u147_98, nI_mul8, nI_add, hBs, hcs, true_and, x101, nI_le8, w, if_false, hB0, hc0, hB1, hc1, hB2, hc2, i0, i1, i2, hsee, pu_some, pu_none, show ((-4 : Int32) ≤ nI 0) = True by decide, if_true]
            · unfold trP at tr
              have hsee : ∀ (f : Nat) (Rt : Option Value → AMem → Prop), T S (f + 3) 145 0 [some (.ref 73), some (.int (m (69 + s) (3 * nn))), some (.int (m (69 + s) (3 * nn + 1))), some (.int (m (69 + s) (3 * nn + 2)))] [] X Rt = Rt (some (.int (-2))) X := fun f Rt => (hsee f Rt).trans (by rw [if_neg tr])
              simp (disch := omega) only [u147_0, u147_1, u147_4, u147_7, u147_9, u147_10, u147_11, u147_14, u147_15, u147_16, u147_19, u147_20, u147_21, u147_24, u147_25, u147_26, u147_28, u147_29, u147_30, u147_31, u147_32, u147_33, u147_36, u147_37, u147_38, u147_41, u147_42, u147_43, u147_46, u147_48, u147_49, u147_50, u147_51, u147_52, u147_53, u147_54, u147_55, u147_56, u147_59, u147_61, u147_62, u147_63, u147_64, u147_65, u147_66, u147_67, u147_68, u147_69, u147_70, u147_71, u147_74, u147_76, u147_77, u147_78, u147_79, u147_80, u147_81, u147_82, u147_83, u147_84, u147_85, u147_88, u147_91, u147_94, u147_97, u147_98, nI_mul8, nI_add, hBs, hcs, true_and, x101, nI_le8, w, if_false, hB0, hc0, hB1, hc1, hB2, hc2, i0, i1, i2, hsee, pu_some, pu_none, show ((-2 : Int32) ≤ nI 0) = True by decide, if_true]
        | succ r ih =>
          intro nn X hnn h1 h2 h3 h4
          obtain ⟨c1, c2⟩ := b7 nn (by omega)
          rw [a1, nI_lt8 (by omega) (by omega)] at c1
          unfold trP at c2
          have x101 : X 101 s = nI n := by rw [h2 _ _ (by omega) (by omega), b4 _ _ (by omega)]; exact a2
          have w : ¬ n ≤ 3 * nn + 2 := by omega
          have hB0 : inB (nI (60 * s + 3 * nn)) 240 = true := inB8 (by omega) (by decide)
          have hc0 : (nI (60 * s + 3 * nn)).toNatClampNeg = 60 * s + 3 * nn := nI_cl8 (by omega)
          have hB1 : inB (nI (60 * s + 3 * nn + 1)) 240 = true := inB8 (by omega) (by decide)
          have hc1 : (nI (60 * s + 3 * nn + 1)).toNatClampNeg = 60 * s + 3 * nn + 1 := nI_cl8 (by omega)
          have hB2 : inB (nI (60 * s + 3 * nn + 2)) 240 = true := inB8 (by omega) (by decide)
          have hc2 : (nI (60 * s + 3 * nn + 2)).toNatClampNeg = 60 * s + 3 * nn + 2 := nI_cl8 (by omega)
          have i0 : X 102 (60 * s + 3 * nn) = m (69 + s) (3 * nn) := by rw [h2 _ _ (by omega) (by omega)]; exact item _ (by omega)
          have i1 : X 102 (60 * s + 3 * nn + 1) = m (69 + s) (3 * nn + 1) := by rw [h2 _ _ (by omega) (by omega)]; exact item (3 * nn + 1) (by omega)
          have i2 : X 102 (60 * s + 3 * nn + 2) = m (69 + s) (3 * nn + 2) := by rw [h2 _ _ (by omega) (by omega)]; exact item (3 * nn + 2) (by omega)
          have hsee : ∀ (f : Nat) (Rt : Option Value → AMem → Prop), T S (f + 3) 145 0 [some (.ref 73), some (.int (m (69 + s) (3 * nn))), some (.int (m (69 + s) (3 * nn + 1))), some (.int (m (69 + s) (3 * nn + 2)))] [] X Rt = Rt (some (.int (nI (N 4 + nn + 1)))) (mput (N 4 + nn) (m (69 + s) (3 * nn)) (m (69 + s) (3 * nn + 1)) (m (69 + s) (3 * nn + 2)) X) := fun f Rt => (s_mSeen (S := S) (f := f) (Rt := Rt) h1 (show N 4 + nn ≤ 8 by omega)).trans (by rw [if_pos c2, if_pos (by omega)])
          have hgt : ¬ N 4 + nn + 1 ≤ 0 := by omega
          obtain ⟨Z, z1, z2, z3, z4, z5⟩ := ih (nn + 1) (mput (N 4 + nn) (m (69 + s) (3 * nn)) (m (69 + s) (3 * nn + 1)) (m (69 + s) (3 * nn + 2)) X) (by omega) (by unfold mput; rw [up_at, Nat.add_assoc]) (fun a j d1 d2 => by
            unfold mput
            rw [up_off (by omega), up_off (by omega), up_off (by omega), up_off (by omega)]
            exact h2 a j d1 d2) (fun j hj => by
            unfold mput
            by_cases y : j = nn
            · subst y
              simp [up_ap]
            · simp [up_ap, y]
              exact h3 j (by omega)) (fun j hj => by
            unfold mput
            have : ¬ j = N 4 + nn := by omega
            simp [up_ap, this]
            exact h4 j hj)
          refine ⟨Z, z1, z2, z3, z4, fun f Rt => u147_27.trans ?_⟩
          rw [← z5 f Rt]
          simp (disch := omega) only [u147_0, u147_1, u147_4, u147_7, u147_9, u147_10, u147_11, u147_14, u147_15, u147_16, u147_19, u147_20, u147_21, u147_24, u147_25, u147_26, u147_28, u147_29, u147_30, u147_31, u147_32, u147_33, u147_36, u147_37, u147_38, u147_41, u147_42, u147_43, u147_46, u147_48, u147_49, u147_50, u147_51, u147_52, u147_53, u147_54, u147_55, u147_56, u147_59, u147_61, u147_62, u147_63, u147_64, u147_65, u147_66, u147_67, u147_68, u147_69, u147_70, u147_71, u147_74, u147_76, u147_77, u147_78, u147_79, u147_80, u147_81, u147_82, u147_83, u147_84, u147_85, u147_88, u147_91, u147_94, u147_97, u147_98, nI_mul8, nI_add, hBs, hcs, true_and, x101, nI_le8, w, if_false, hB0, hc0, hB1, hc1, hB2, hc2, i0, i1, i2, hsee, pu_some, pu_none, hgt]
      obtain ⟨Z, z1, z2, z3, z4, z5⟩ := st k 0 m1 (by omega) (by rw [b4 _ _ (by omega), Nat.add_zero]; exact s1) (fun a j _ _ => rfl) (fun j hj => by omega) (fun j hj => by rw [b4 _ _ (by omega), b4 _ _ (by omega), b4 _ _ (by omega)]; exact ⟨rfl, rfl, rfl⟩)
      obtain ⟨k1, k2⟩ := seen_Bs (m2 := Z) (c := N 4 + k) (sd := fun i => if i < N 4 then B 3 i else (m (69 + s) (3 * (i - N 4))).toNatClampNeg) (sh := fun i => if i < N 4 then B 4 i else (m (69 + s) (3 * (i - N 4) + 1)).toNatClampNeg) (su := fun i => if i < N 4 then B 5 i else (m (69 + s) (3 * (i - N 4) + 2)).toNatClampNeg) h hc (by
        refine ⟨by rw [z2 _ _ (by omega) (by omega)]; exact b3, b2, fun i hi => ?_⟩
        rw [z2 61 _ (by omega) (by omega), z2 62 _ (by omega) (by omega), z2 63 _ (by omega) (by omega)]
        by_cases y : i < N 4
        · simp only [if_pos y]
          obtain ⟨d1, d2, d3⟩ := b6 i y
          rw [d1, d2, d3]
          exact hg.2.2 i y
        · simp only [if_neg y]
          obtain ⟨d1, d2, d3⟩ := b5 (i - N 4) (by omega)
          rw [show N 4 + (i - N 4) = i by omega] at d1 d2 d3
          rw [d1, d2, d3]
          obtain ⟨⟨t1, t2⟩, ⟨t3, t4⟩, t5, t6⟩ := tok_n (b7 (i - N 4) (by omega)).2
          exact ⟨t2, t1, t4, t3, t6, t5⟩) (by
        refine ⟨z1, fun i hi => ?_⟩
        by_cases y : i < N 4
        · simp only [if_pos y]
          obtain ⟨d1, d2, d3⟩ := z4 i y
          rw [d1, d2, d3]
          exact s2 i y
        · simp only [if_neg y]
          obtain ⟨d1, d2, d3⟩ := z3 (i - N 4) (by omega)
          rw [show N 4 + (i - N 4) = i by omega] at d1 d2 d3
          rw [d1, d2, d3]
          obtain ⟨⟨t1, t2⟩, ⟨t3, t4⟩, t5, t6⟩ := tok_n (b7 (i - N 4) (by omega)).2
          exact ⟨t2, t4, t6⟩) (fun a j d1 d2 d3 => by rw [z2 a j d2 d3]; exact b4 a j d1)
      refine ⟨(nI k), m1, Z, _, _, k1, k2, e1, fun f Rt => ?_⟩
      have m99 : m1 99 s = m 99 s := b4 _ _ (by omega)
      refine Eq.trans ?_ (z5 f Rt)
      simp only [u147_0, u147_1, u147_4, u147_7, u147_9, u147_10, u147_11, u147_14, u147_15, u147_16, u147_19, u147_20, u147_21, u147_24, u147_25, u147_26, u147_28, u147_29, u147_30, u147_31, u147_32, u147_33, u147_36, u147_37, u147_38, u147_41, u147_42, u147_43, u147_46, u147_48, u147_49, u147_50, u147_51, u147_52, u147_53, u147_54, u147_55, u147_56, u147_59, u147_61, u147_62, u147_63, u147_64, u147_65, u147_66, u147_67, u147_68, u147_69, u147_70, u147_71, u147_74, u147_76, u147_77, u147_78, u147_79, u147_80, u147_81, u147_82, u147_83, u147_84, u147_85, u147_88, u147_91, u147_94, u147_97, u147_98, s_mSheet, pu_some, pu_none, b01_e0, hxt, not_true, if_false, hBs, hcs, true_and, m99, hl2]
  · have hxt : (nI 0 ≤ x ∧ x < nI 4) = False := eq_false hx
    refine pr_same h hc (fun f Rt => s_readB (f := f + 9) hx) (fun f Rt => ?_)
    simp only [u147_0, u147_1, u147_4, u147_7, u147_9, u147_10, u147_11, u147_14, u147_15, u147_16, u147_19, u147_20, u147_21, u147_24, u147_25, u147_26, u147_28, u147_29, u147_30, u147_31, u147_32, u147_33, u147_36, u147_37, u147_38, u147_41, u147_42, u147_43, u147_46, u147_48, u147_49, u147_50, u147_51, u147_52, u147_53, u147_54, u147_55, u147_56, u147_59, u147_61, u147_62, u147_63, u147_64, u147_65, u147_66, u147_67, u147_68, u147_69, u147_70, u147_71, u147_74, u147_76, u147_77, u147_78, u147_79, u147_80, u147_81, u147_82, u147_83, u147_84, u147_85, u147_88, u147_91, u147_94, u147_97, u147_98, s_mSheet, pu_some, pu_none, b01_e0, hxt, not_false_iff, if_true]
end UPR
