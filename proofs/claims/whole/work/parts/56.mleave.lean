section MLV
variable {S : AScr} {m M X : AMem} {w : AMem} {N : Nat → Nat} {B : Nat → Nat → Nat}
/-- on which day x sails when the set a is away -/
def stL (N : Nat → Nat) (B : Nat → Nat → Nat) (x a : Nat) : Int32 := RR N B (wA N B (nI a)) 29 93 x
theorem s_isLeft (h : Bs N B m) (hX : MQt N B X) {x a : Nat} (hx : x < mN N B) (ha : a < 64) : ∃ X2, MQt N B X2 ∧ Km X X2 ∧ X2 94 = X 94 ∧ ∀ (f : Nat) (Rt : Option Value → AMem → Prop), T S (f + 6) 143 0 [some (.ref 73), some (.int (nI x)), some (.int (nI a))] [] X Rt = Rt (some (.int (b01 (stL N B x a = -1)))) X2 := by
  obtain ⟨h8, h8i, h6⟩ := Bs_m8 h
  have hw2 : Wkn N B (wA N B (nI a)) := Bs_ok h ha
  have hM2 : MWn N B (wA N B (nI a)) (up X 73 16 (nI a)) := MQ_set hX
  have hE := mr_eq hw2 hM2 (z := 29) (by decide)
  have e93 := (hE.1 x hx).2.2.2
  have hrun := fun f Rt => s_mr (S := S) (f := f) (Rt := Rt) hw2 hM2 (z := 29) (by decide)
  have hB8 : inB (nI x) 8 = true := inB8 (by omega) (by decide)
  have hc : (nI x).toNatClampNeg = x := nI_cl8 (by omega)
  refine ⟨mRunM (mN N B) (fN N B) 29 (up X 73 16 (nI a)), ⟨nI a, MW_run hM2⟩, Km_t (Km_up (by omega)) Km_run, ?_, fun f Rt => ?_⟩
  · rw [run_row (by omega), up_row (by decide)]
  · unfold stL
    rw [← e93]
    by_cases q : mRunM (mN N B) (fN N B) 29 (up X 73 16 (nI a)) 93 x = -1
    · simp only [u143_0, u143_1, u143_2, u143_5, u143_6, u143_8, u143_11, u143_12, u143_15, u143_16, u143_17, u143_18, u143_21, u143_22, u143_25, u143_26, hrun, pu_some, pu_none, hB8, hc, true_and, q, if_true, nar_z1, b01]
    · simp only [u143_0, u143_1, u143_2, u143_5, u143_6, u143_8, u143_11, u143_12, u143_15, u143_16, u143_17, u143_18, u143_21, u143_22, u143_25, u143_26, hrun, pu_some, pu_none, hB8, hc, true_and, q, if_false, nar_z0, b01]
def leA (L : Nat → Int32) : Nat → Nat → Option Nat
  | 0, _ => none
  | r + 1, a => if L (2 ^ a) = -1 then some a else leA L r (a + 1)
def leC (L : Nat → Int32) (a : Nat) : Nat → Nat → Option Nat
  | 0, _ => none
  | r + 1, b => if L (2 ^ a ||| 2 ^ b) = -1 then some b else leC L a r (b + 1)
def leB (L : Nat → Int32) (fleet : Nat) : Nat → Nat → Option (Nat × Nat)
  | 0, _ => none
  | r + 1, a => match leC L a (fleet - (a + 1)) (a + 1) with
    | some b => some (a, b)
    | none => leB L fleet r (a + 1)
/-- how many are left out, and which -/
def leN (L : Nat → Int32) (fleet : Nat) : Option (Nat × Nat × Nat) := if L 0 = -1 then some (0, 0, 0) else match leA L fleet 0 with
  | some a => some (1, a, 0)
  | none => match leB L fleet fleet 0 with
    | some p => some (2, p.1, p.2)
    | none => none
def leR (M : AMem) : Option (Nat × Nat × Nat) → Prop
  | none => True
  | some (n, a, b) => (1 ≤ n → M 94 0 = nI a) ∧ (n = 2 → M 94 1 = nI b)
def leI : Option (Nat × Nat × Nat) → Int32
  | none => -1
  | some (n, _, _) => nI n
theorem leA_lt {L : Nat → Int32} : ∀ (r a : Nat) {b : Nat}, leA L r a = some b → b < a + r := by
  intro r
  induction r with
  | zero => intro a b h; cases h
  | succ r ih =>
    intro a b h
    unfold leA at h
    split at h
    · have := Option.some.inj h
      omega
    · have := ih (a + 1) h
      omega
theorem leC_lt {L : Nat → Int32} {a : Nat} : ∀ (r b : Nat) {c : Nat}, leC L a r b = some c → b ≤ c ∧ c < b + r := by
  intro r
  induction r with
  | zero => intro a b h; cases h
  | succ r ih =>
    intro b c h
    unfold leC at h
    split at h
    · have := Option.some.inj h
      omega
    · have := ih (b + 1) h
      omega
theorem leB_lt {L : Nat → Int32} {fleet : Nat} : ∀ (r a : Nat) {p : Nat × Nat}, leB L fleet r a = some p → p.1 < a + r ∧ p.1 < p.2 ∧ p.2 < fleet := by
  intro r
  induction r with
  | zero => intro a p h; cases h
  | succ r ih =>
    intro a p h
    unfold leB at h
    cases q : leC L a (fleet - (a + 1)) (a + 1) with
    | some b =>
      rw [q] at h
      have e := Option.some.inj h
      have := leC_lt _ _ q
      rw [← e]
      dsimp only
      omega
    | none =>
      rw [q] at h
      have := ih (a + 1) h
      omega
set_option maxHeartbeats 1000000 in
theorem q_leaveBy (h : Bs N B m) {x : Nat} (hx : x < mN N B) : ∃ M, Km m M ∧ MQt N B M ∧ leR M (leN (stL N B x) (fN N B)) ∧ ∀ (f : Nat) (Rt : Option Value → AMem → Prop), T S (f + 8) 142 0 [some (.ref 73), some (.int (nI x)), none, none] [] m Rt = Rt (some (.int (leI (leN (stL N B x) (fN N B))))) M := by
  obtain ⟨M, x0, hR, hK, hM⟩ := rd_ok (S := S) h
  obtain ⟨h8, h8i, h6⟩ := Bs_m8 h
  have hQ : MQt N B M := ⟨x0, hM⟩
  have fl : ∀ X, MQt N B X → X 73 10 = nI (fN N B) := fun X ⟨y, hy⟩ => hy.1.2.2
  have B0 : inB (nI 0) 2 = true := by decide
  have B1 : inB (nI 1) 2 = true := by decide
  have c0 : (nI 0).toNatClampNeg = 0 := nI_cl8 (by omega)
  have c1 : (nI 1).toNatClampNeg = 1 := nI_cl8 (by omega)
  have Q94 : ∀ X j v, MQt N B X → MQt N B (up X 94 j v) := fun X j v ⟨y, hy⟩ => ⟨y, MW_keep hy (fun i _ => by rw [up_row (by decide)]) (fun a h1 h2 => up_row (by omega))⟩
  have kC : ∀ a, a < fN N B → ∀ r b X, b + r = fN N B → MQt N B X → Km m X → ∃ X2, MQt N B X2 ∧ Km m X2 ∧ (∀ c, leC (stL N B x) a r b = some c → X2 94 0 = nI a ∧ X2 94 1 = nI c) ∧ ∀ (f : Nat) (Rt : Option Value → AMem → Prop), T S (f + 8) 142 65 [some (.ref 73), some (.int (nI x)), some (.int (nI a)), some (.int (nI b))] [] X Rt = match leC (stL N B x) a r b with | some _ => Rt (some (.int (nI 2))) X2 | none => T S (f + 8) 142 110 [some (.ref 73), some (.int (nI x)), some (.int (nI a)), some (.int (nI (fN N B)))] [] X2 Rt := by
    intro a ha r
    induction r with
    | zero =>
      intro b X hb hX hk
      have : b = fN N B := by omega
      subst this
      refine ⟨X, hX, hk, fun c hc => (by cases hc), fun f Rt => u142_65.trans ?_⟩
      simp (disch := omega) only [u142_66, u142_67, u142_70, fl X hX, nI_le8, Nat.le_refl, if_true]
      rfl
    | succ r ih =>
      intro b X hb hX hk
      have hle : (nI (fN N B) ≤ nI b) = False := by rw [nI_le8 (by omega) (by omega)]; exact eq_false (by omega)
      have s1 := sh8 a (by omega)
      have s2 := sh8 b (by omega)
      obtain ⟨o1, o2⟩ := p2_or (a := a) (b := b) (by omega) (by omega)
      obtain ⟨X2, q1, q2, q3, q4⟩ := s_isLeft (S := S) h (Q94 _ 1 (nI b) (Q94 X 0 (nI a) hX)) hx o2
      have k2 : Km m X2 := Km_t hk (Km_t (Km_up (by omega)) (Km_t (Km_up (by omega)) q2))
      unfold leC
      by_cases z : stL N B x (2 ^ a ||| 2 ^ b) = -1
      · rw [if_pos z]
        refine ⟨X2, q1, k2, fun c hc => ?_, fun f Rt => u142_65.trans ?_⟩
        · have e : b = c := Option.some.inj hc
          subst e
          rw [q3, up_off (by decide), up_at, up_at]
          exact ⟨rfl, rfl⟩
        · simp only [u142_66, u142_67, u142_70, u142_73, u142_74, u142_77, u142_78, u142_79, u142_80, u142_81, u142_84, u142_85, u142_86, u142_87, u142_88, u142_89, u142_90, u142_91, u142_92, u142_93, u142_94, u142_95, u142_96, u142_99, u142_102, u142_103, fl X hX, hle, if_false, B0, B1, c0, c1, true_and, s1, s2, o1, q4, pu_some, pu_none, z, b01_e0, not_true]
      · rw [if_neg z]
        obtain ⟨X3, r1, r2, r3, r4⟩ := ih (b + 1) X2 (by omega) q1 k2
        refine ⟨X3, r1, r2, r3, fun f Rt => u142_65.trans ?_⟩
        rw [← r4]
        simp only [u142_66, u142_67, u142_70, u142_73, u142_74, u142_77, u142_78, u142_79, u142_80, u142_81, u142_84, u142_85, u142_86, u142_87, u142_88, u142_89, u142_90, u142_91, u142_92, u142_93, u142_94, u142_95, u142_96, u142_99, u142_104, u142_107, fl X hX, hle, if_false, B0, B1, c0, c1, true_and, s1, s2, o1, q4, pu_some, pu_none, z, b01_e0, not_false_iff, if_true, nI_add]
  have kB : ∀ r a X l, a + r = fN N B → MQt N B X → Km m X → ∃ X2, MQt N B X2 ∧ Km m X2 ∧ (∀ p, leB (stL N B x) (fN N B) r a = some p → X2 94 0 = nI p.1 ∧ X2 94 1 = nI p.2) ∧ ∀ (f : Nat) (Rt : Option Value → AMem → Prop), T S (f + 8) 142 53 [some (.ref 73), some (.int (nI x)), some (.int (nI a)), l] [] X Rt = match leB (stL N B x) (fN N B) r a with | some _ => Rt (some (.int (nI 2))) X2 | none => Rt (some (.int (-1))) X2 := by
    intro r
    induction r with
    | zero =>
      intro a X l ha hX hk
      have : a = fN N B := by omega
      subst this
      refine ⟨X, hX, hk, fun c hc => (by cases hc), fun f Rt => u142_53.trans ?_⟩
      simp (disch := omega) only [u142_54, u142_55, u142_58, u142_116, u142_117, fl X hX, nI_le8, Nat.le_refl, if_true]
      rfl
    | succ r ih =>
      intro a X l ha hX hk
      have hle : (nI (fN N B) ≤ nI a) = False := by rw [nI_le8 (by omega) (by omega)]; exact eq_false (by omega)
      obtain ⟨X2, q1, q2, q3, q4⟩ := kC a (by omega) (fN N B - (a + 1)) (a + 1) X (by omega) hX hk
      unfold leB
      cases p : leC (stL N B x) a (fN N B - (a + 1)) (a + 1) with
      | some b =>
        rw [p] at q3 q4
        refine ⟨X2, q1, q2, fun c hc => ?_, fun f Rt => u142_53.trans ?_⟩
        · have e := Option.some.inj hc
          rw [← e]
          exact q3 b rfl
        · simp only [u142_54, u142_55, u142_58, u142_61, u142_62, u142_63, u142_64, fl X hX, hle, if_false, nI_add, q4]
      | none =>
        rw [p] at q4
        obtain ⟨X3, r1, r2, r3, r4⟩ := ih (a + 1) X2 (some (.int (nI (fN N B)))) (by omega) q1 q2
        refine ⟨X3, r1, r2, r3, fun f Rt => u142_53.trans ?_⟩
        simp only [u142_54, u142_55, u142_58, u142_61, u142_62, u142_63, u142_64, fl X hX, hle, if_false, nI_add, q4]
        simp only [u142_110, u142_113, nI_add]
        exact r4 f Rt
  have kA : ∀ r a X, a + r = fN N B → MQt N B X → Km m X → ∃ X2, MQt N B X2 ∧ Km m X2 ∧ (∀ c, leA (stL N B x) r a = some c → X2 94 0 = nI c) ∧ ∀ (f : Nat) (Rt : Option Value → AMem → Prop), T S (f + 8) 142 17 [some (.ref 73), some (.int (nI x)), some (.int (nI a)), none] [] X Rt = match leA (stL N B x) r a with | some _ => Rt (some (.int (nI 1))) X2 | none => T S (f + 8) 142 51 [some (.ref 73), some (.int (nI x)), some (.int (nI (fN N B))), none] [] X2 Rt := by
    intro r
    induction r with
    | zero =>
      intro a X ha hX hk
      have : a = fN N B := by omega
      subst this
      refine ⟨X, hX, hk, fun c hc => (by cases hc), fun f Rt => u142_17.trans ?_⟩
      simp (disch := omega) only [u142_18, u142_19, u142_22, fl X hX, nI_le8, Nat.le_refl, if_true]
      rfl
    | succ r ih =>
      intro a X ha hX hk
      have hle : (nI (fN N B) ≤ nI a) = False := by rw [nI_le8 (by omega) (by omega)]; exact eq_false (by omega)
      have s1 := sh8 a (by omega)
      obtain ⟨X2, q1, q2, q3, q4⟩ := s_isLeft (S := S) h (Q94 X 0 (nI a) hX) hx (p2_lt (a := a) (by omega))
      have k2 : Km m X2 := Km_t hk (Km_t (Km_up (by omega)) q2)
      unfold leA
      by_cases z : stL N B x (2 ^ a) = -1
      · rw [if_pos z]
        refine ⟨X2, q1, k2, fun c hc => ?_, fun f Rt => u142_17.trans ?_⟩
        · have e : a = c := Option.some.inj hc
          subst e
          rw [q3, up_at]
        · simp only [u142_18, u142_19, u142_22, u142_25, u142_26, u142_29, u142_30, u142_31, u142_32, u142_33, u142_34, u142_35, u142_36, u142_37, u142_40, u142_43, u142_44, fl X hX, hle, if_false, B0, c0, true_and, s1, q4, pu_some, pu_none, z, b01_e0, not_true]
      · rw [if_neg z]
        obtain ⟨X3, r1, r2, r3, r4⟩ := ih (a + 1) X2 (by omega) q1 k2
        refine ⟨X3, r1, r2, r3, fun f Rt => u142_17.trans ?_⟩
        rw [← r4]
        simp only [u142_18, u142_19, u142_22, u142_25, u142_26, u142_29, u142_30, u142_31, u142_32, u142_33, u142_34, u142_35, u142_36, u142_37, u142_40, u142_45, u142_48, fl X hX, hle, if_false, B0, c0, true_and, s1, q4, pu_some, pu_none, z, b01_e0, not_false_iff, if_true, nI_add]
  obtain ⟨X0, a1, a2, a3, a4⟩ := s_isLeft (S := S) h hQ hx (show 0 < 64 by decide)
  have ka : Km m X0 := Km_t hK a2
  unfold leN
  by_cases z : stL N B x 0 = -1
  · rw [if_pos z]
    refine ⟨X0, ka, a1, ⟨fun y => by omega, fun y => by omega⟩, fun f Rt => ?_⟩
    simp only [u142_0, u142_1, u142_4, u142_5, u142_6, u142_7, u142_10, u142_13, u142_14, Rd_e hR, pu_some, pu_none, a4, z, b01_e0, not_true, if_false]
    rfl
  · rw [if_neg z]
    obtain ⟨XA, b1, b2, b3, b4⟩ := kA (fN N B) 0 X0 (by omega) a1 ka
    cases pA : leA (stL N B x) (fN N B) 0 with
    | some a =>
      rw [pA] at b3 b4
      refine ⟨XA, b2, b1, ⟨fun _ => b3 a rfl, fun y => by omega⟩, fun f Rt => ?_⟩
      simp only [u142_0, u142_1, u142_4, u142_5, u142_6, u142_7, u142_10, u142_15, u142_16, Rd_e hR, pu_some, pu_none, a4, z, b01_e0, not_false_iff, if_true, b4]
      rfl
    | none =>
      rw [pA] at b4
      obtain ⟨XB, d1, d2, d3, d4⟩ := kB (fN N B) 0 XA none (by omega) b1 b2
      cases pB : leB (stL N B x) (fN N B) (fN N B) 0 with
      | some p =>
        rw [pB] at d3 d4
        refine ⟨XB, d2, d1, ⟨fun _ => (d3 p rfl).1, fun _ => (d3 p rfl).2⟩, fun f Rt => ?_⟩
        simp only [u142_0, u142_1, u142_4, u142_5, u142_6, u142_7, u142_10, u142_15, u142_16, u142_51, u142_52, Rd_e hR, pu_some, pu_none, a4, z, b01_e0, not_false_iff, if_true, b4, d4]
        rfl
      | none =>
        rw [pB] at d4
        refine ⟨XB, d2, d1, trivial, fun f Rt => ?_⟩
        simp only [u142_0, u142_1, u142_4, u142_5, u142_6, u142_7, u142_10, u142_15, u142_16, u142_51, u142_52, Rd_e hR, pu_some, pu_none, a4, z, b01_e0, not_false_iff, if_true, b4, d4]
        rfl
def leV (i : Int32) : Option (Nat × Nat × Nat) → Int32
  | none => -1
  | some (n, a, b) => if i = -1 then nI n else if i < nI n then (if i = nI 0 then nI a else nI b) else -1
theorem leN_n {L : Nat → Int32} {fl n a b : Nat} (h : leN L fl = some (n, a, b)) : n ≤ 2 := by
  unfold leN at h
  split at h
  · cases h; omega
  · split at h
    · cases h; omega
    · split at h
      · cases h; omega
      · cases h
theorem q_ofRow {M : AMem} {f : Nat} {Rt : Option Value → AMem → Prop} {i : Int32} {o : Option (Nat × Nat × Nat)} (hR : leR M o) (hn : ∀ n a b, o = some (n, a, b) → n ≤ 2) (hi : i = -1 ∨ i = nI 0 ∨ i = nI 1) : T S (f + 1) 144 0 [some (.ref 73), some (.int (leI o)), some (.int i)] [] M Rt = Rt (some (.int (leV i o))) M := by
  have B0 : inB (nI 0) 2 = true := by decide
  have B1 : inB (nI 1) 2 = true := by decide
  have c0 : (nI 0).toNatClampNeg = 0 := nI_cl8 (by omega)
  have c1 : (nI 1).toNatClampNeg = 1 := nI_cl8 (by omega)
  have n0 : ¬ nI 0 = -1 := by decide
  have n1 : ¬ nI 1 = -1 := by decide
  have m0 : (-1 : Int32) ≤ nI 0 := by decide
  have m1 : (-1 : Int32) ≤ nI 1 := by decide
  cases o with
  | none =>
    unfold leI leV
    rcases hi with rfl | rfl | rfl
    · simp only [u144_0, u144_1, u144_2, u144_5, u144_6, u144_9, u144_10, u144_11, u144_14, u144_15, u144_18, u144_19, u144_20, u144_23, u144_24, if_true]
    · simp only [u144_0, u144_1, u144_2, u144_5, u144_6, u144_9, u144_10, u144_11, u144_14, u144_15, u144_18, u144_19, u144_20, u144_23, u144_24, if_true, if_false, n0, m0]
    · simp only [u144_0, u144_1, u144_2, u144_5, u144_6, u144_9, u144_10, u144_11, u144_14, u144_15, u144_18, u144_19, u144_20, u144_23, u144_24, if_true, if_false, n1, m1]
  | some p =>
    obtain ⟨n, a, b⟩ := p
    have hn2 := hn n a b rfl
    obtain ⟨r1, r2⟩ := hR
    unfold leI leV
    dsimp only
    rcases hi with rfl | rfl | rfl
    · simp only [u144_0, u144_1, u144_2, u144_5, u144_6, u144_9, u144_10, u144_11, u144_14, u144_15, u144_18, u144_19, u144_20, u144_23, u144_24, if_true]
    · by_cases z : nI 0 < nI n
      · have : 1 ≤ n := by rw [nI_lt8 (by omega) (by omega)] at z; omega
        simp only [u144_0, u144_1, u144_2, u144_5, u144_6, u144_9, u144_10, u144_11, u144_14, u144_15, u144_18, u144_19, u144_20, u144_23, u144_24, if_true, if_false, n0, le_n (nI n) (nI 0), z, not_true, B0, c0, true_and, r1 this]
      · simp only [u144_0, u144_1, u144_2, u144_5, u144_6, u144_9, u144_10, u144_11, u144_14, u144_15, u144_18, u144_19, u144_20, u144_23, u144_24, if_true, if_false, n0, le_n (nI n) (nI 0), z, not_false_iff]
    · by_cases z : nI 1 < nI n
      · have : n = 2 := by rw [nI_lt8 (by omega) (by omega)] at z; omega
        simp only [u144_0, u144_1, u144_2, u144_5, u144_6, u144_9, u144_10, u144_11, u144_14, u144_15, u144_18, u144_19, u144_20, u144_23, u144_24, if_true, if_false, n1, le_n (nI n) (nI 1), z, not_true, B1, c1, true_and, r2 this, show ¬ nI 1 = nI 0 by decide]
      · simp only [u144_0, u144_1, u144_2, u144_5, u144_6, u144_9, u144_10, u144_11, u144_14, u144_15, u144_18, u144_19, u144_20, u144_23, u144_24, if_true, if_false, n1, le_n (nI n) (nI 1), z, not_false_iff]
end MLV
