section MSN
variable {S : AScr} {m M X : AMem} {w : AMem} {N : Nat → Nat} {B : Nat → Nat → Nat}
def seenP (N : Nat → Nat) (B : Nat → Nat → Nat) (w : AMem) : Prop := ∀ k, k < N 4 → B 4 k < iN N B ∧ RR N B w (B 3 k) 89 (B 4 k) = nI (B 5 k)
def seenB (N : Nat → Nat) (B : Nat → Nat → Nat) (w : AMem) (d k : Nat) : Bool := !decide (B 3 k = d) || (decide (B 4 k < iN N B) && decide (RR N B w d 89 (B 4 k) = nI (B 5 k)))
def seenF (N : Nat → Nat) (B : Nat → Nat → Nat) (w : AMem) (d : Nat) (b : Bool) : Bool := it (N 4) (fun k b => b && seenB N B w d k) b
def seenV (N : Nat → Nat) (B : Nat → Nat → Nat) (w : AMem) : Bool := it 30 (seenF N B w) true
theorem it_and {p : Nat → Bool} {b : Bool} : ∀ n, (it n (fun k b => b && p k) b = true) = (b = true ∧ ∀ k, k < n → p k = true) := by
  intro n
  induction n with
  | zero => exact propext ⟨fun h => ⟨h, fun k hk => by omega⟩, fun h => h.1⟩
  | succ n ih =>
    rw [it_s, Bool.and_eq_true, ih]
    refine propext ⟨fun h => ⟨h.1.1, fun k hk => ?_⟩, fun h => ⟨⟨h.1, fun k hk => h.2 k (by omega)⟩, h.2 n (by omega)⟩⟩
    by_cases z : k = n
    · rw [z]; exact h.2
    · exact h.1.2 k (by omega)
theorem seenV_P (hd : ∀ k, k < N 4 → B 3 k < 30) : (seenV N B w = true) = seenP N B w := by
  have key : ∀ n, (it n (seenF N B w) true = true) = ∀ d, d < n → ∀ k, k < N 4 → seenB N B w d k = true := by
    intro n
    induction n with
    | zero => exact propext ⟨fun _ d hd => by omega, fun _ => rfl⟩
    | succ n ih =>
      rw [it_s]
      have e : (seenF N B w n (it n (seenF N B w) true) = true) = (it n (seenF N B w) true = true ∧ ∀ k, k < N 4 → seenB N B w n k = true) := it_and (N 4)
      rw [e, ih]
      refine propext ⟨fun h d hd => ?_, fun h => ⟨fun d hd => h d (by omega), h n (by omega)⟩⟩
      by_cases z : d = n
      · rw [z]; exact h.2
      · exact h.1 d (by omega)
  unfold seenV seenP
  rw [key 30]
  unfold seenB
  refine propext ⟨fun h k hk => ?_, fun h d hd k hk => ?_⟩
  · have := h (B 3 k) (hd k hk) k hk
    simp at this
    exact this
  · by_cases z : B 3 k = d
    · subst z
      have := h k hk
      simp [this.1, this.2]
    · simp [z]
set_option maxHeartbeats 1000000 in
/-- is what was seen so, on the other side -/
theorem s_isSeen (hB : Bs N B X) (hw : Wkn N B w) (hM : MWn N B w X) : ∃ X2, MWn N B w X2 ∧ Km X X2 ∧ ∀ (f : Nat) (Rt : Option Value → AMem → Prop), T S (f + 5) 152 0 [some (.ref 73), none, none, none] [] X Rt = Rt (some (.int (b01 (seenV N B w = true)))) X2 := by
  obtain ⟨h8, h8i, h6⟩ := Bs_m8 hB
  obtain ⟨g1, g2, g3⟩ := hB.2.2.2.1
  obtain ⟨t1, t2⟩ := hB.2.2.2.2.1
  have hMA0 := beg_MA (MT_of hw hM) (MD_of hw hM)
  have hMA : ∀ d, MA (mN N B) (iN N B) (fN N B) (loN w) (tiN w) (ndN w) d 0 (it d (goesM (mN N B) (fN N B)) (mBegM (mN N B) X)) := fun d => it_I (goesM (mN N B) (fN N B)) (fun d m => MA (mN N B) (iN N B) (fN N B) (loN w) (tiN w) (ndN w) d 0 m) d (fun d _ m hm => goes_MA hm) _ hMA0 d (Nat.le_refl _)
  have hMWz : ∀ d, MWn N B w (mRunM (mN N B) (fN N B) d X) := fun d => MW_run hM
  have hEz : ∀ d, d < 90 → EqR (mN N B) (mRunM (mN N B) (fN N B) d X) (RR N B w d) := fun d hd => mr_eq hw hM hd
  have hs : ∀ d, mRunM (mN N B) (fN N B) d X 73 27 = nI (N 4) ∧ ∀ i, i < N 4 → mRunM (mN N B) (fN N B) d X 95 i = nI (B 3 i) ∧ mRunM (mN N B) (fN N B) d X 96 i = nI (B 4 i) ∧ mRunM (mN N B) (fN N B) d X 97 i = nI (B 5 i) := fun d => by
    rw [run_73 (by decide), run_row (by omega), run_row (by omega), run_row (by omega)]
    exact ⟨t1, t2⟩
  refine ⟨mRunM (mN N B) (fN N B) 29 X, MW_run hM, Km_run, fun f Rt => ?_⟩
  have inner : ∀ d, d < 30 → ∀ b, T S (f + 5) 152 21 [some (.ref 73), some (.int (b01 (b = true))), some (.int (nI d)), some (.int (nI 0))] [] (mRunM (mN N B) (fN N B) d X) Rt = T S (f + 5) 152 88 [some (.ref 73), some (.int (b01 (seenF N B w d b = true))), some (.int (nI d)), some (.int (nI (N 4)))] [] (mRunM (mN N B) (fN N B) d X) Rt := fun d hd b => by
    obtain ⟨u1, u2⟩ := hs d
    have hE := hEz d (by omega)
    have h7 := (hMWz d).1.2.1
    generalize mRunM (mN N B) (fN N B) d X = Y at *
    have e := it_run (fun k (b : Bool) => T S (f + 5) 152 21 [some (.ref 73), some (.int (b01 (b = true))), some (.int (nI d)), some (.int (nI k))] [] Y Rt) (fun k b => b && seenB N B w d k) (fun _ _ => True) (N 4) (fun _ _ _ _ => trivial) (fun k hk b _ => by
      have hle : (nI (N 4) ≤ nI k) = False := by rw [nI_le8 (by omega) (by omega)]; exact eq_false (by omega)
      have hB8 : inB (nI k) 8 = true := inB8 (by omega) (by decide)
      have hc : (nI k).toNatClampNeg = k := nI_cl8 (by omega)
      obtain ⟨v1, v2, v3⟩ := u2 k hk
      obtain ⟨x1, x2, x3, x4, x5, x6⟩ := g3 k hk
      have hBh : inB (nI (B 4 k)) 8 = true := inB8 (by omega) (by decide)
      have hch : (nI (B 4 k)).toNatClampNeg = B 4 k := nI_cl8 (by omega)
      have e1 : (nI (B 3 k) = nI d) = (B 3 k = d) := nI_eq8 (by omega) (by omega)
      have e2 : (nI (iN N B) ≤ nI (B 4 k)) = ¬ (B 4 k < iN N B) := by rw [nI_le8 (by omega) (by omega)]; exact propext ⟨fun z => by omega, fun z => by omega⟩
      have z1 : ¬ nI 1 = nI 0 := by decide
      refine u152_21.trans ?_
      unfold seenB
      rw [← hE.2.1 (B 4 k) (by omega)]
      cases b with
      | false =>
        have b0 : b01 (false = true) = nI 0 := by decide
        rw [Bool.false_and, b0]
        simp only [u152_0, u152_1, u152_2, u152_3, u152_6, u152_7, u152_9, u152_11, u152_14, u152_15, u152_16, u152_19, u152_20, u152_22, u152_23, u152_26, u152_29, u152_30, u152_33, u152_34, u152_37, u152_38, u152_39, u152_40, u152_43, u152_44, u152_47, u152_48, u152_49, u152_50, u152_53, u152_56, u152_57, u152_60, u152_61, u152_64, u152_65, u152_66, u152_67, u152_68, u152_71, u152_72, u152_73, u152_76, u152_77, u152_80, u152_81, u152_82, u152_85, u152_88, u152_91, u152_94, u152_95, u1, hle, if_false, if_true, nI_add]
      | true =>
        have b0 : b01 (true = true) = nI 1 := by decide
        rw [Bool.true_and, b0]
        by_cases q1 : B 3 k = d
        · by_cases q2 : B 4 k < iN N B
          · by_cases q3 : Y 89 (B 4 k) = nI (B 5 k)
            · rw [show b01 ((!decide (B 3 k = d) || (decide (B 4 k < iN N B) && decide (Y 89 (B 4 k) = nI (B 5 k)))) = true) = nI 1 by rw [decide_eq_true q1, decide_eq_true q2, decide_eq_true q3]; decide]
              simp only [u152_0, u152_1, u152_2, u152_3, u152_6, u152_7, u152_9, u152_11, u152_14, u152_15, u152_16, u152_19, u152_20, u152_22, u152_23, u152_26, u152_29, u152_30, u152_33, u152_34, u152_37, u152_38, u152_39, u152_40, u152_43, u152_44, u152_47, u152_48, u152_49, u152_50, u152_53, u152_56, u152_57, u152_60, u152_61, u152_64, u152_65, u152_66, u152_67, u152_68, u152_71, u152_72, u152_73, u152_76, u152_77, u152_80, u152_81, u152_82, u152_85, u152_88, u152_91, u152_94, u152_95, u1, hle, if_false, if_true, z1, hB8, hc, true_and, v1, v2, v3, e1, q1, h7, e2, q2, not_true, hBh, hch, q3, nI_add]
            · rw [show b01 ((!decide (B 3 k = d) || (decide (B 4 k < iN N B) && decide (Y 89 (B 4 k) = nI (B 5 k)))) = true) = nI 0 by rw [decide_eq_true q1, decide_eq_true q2, decide_eq_false q3]; decide]
              simp only [u152_0, u152_1, u152_2, u152_3, u152_6, u152_7, u152_9, u152_11, u152_14, u152_15, u152_16, u152_19, u152_20, u152_22, u152_23, u152_26, u152_29, u152_30, u152_33, u152_34, u152_37, u152_38, u152_39, u152_40, u152_43, u152_44, u152_47, u152_48, u152_49, u152_50, u152_53, u152_56, u152_57, u152_60, u152_61, u152_64, u152_65, u152_66, u152_67, u152_68, u152_71, u152_72, u152_73, u152_76, u152_77, u152_80, u152_81, u152_82, u152_85, u152_88, u152_91, u152_94, u152_95, u1, hle, if_false, if_true, z1, hB8, hc, true_and, v1, v2, v3, e1, q1, h7, e2, q2, not_true, hBh, hch, q3, nI_add]
          · rw [show b01 ((!decide (B 3 k = d) || (decide (B 4 k < iN N B) && decide (Y 89 (B 4 k) = nI (B 5 k)))) = true) = nI 0 by rw [decide_eq_true q1, decide_eq_false q2, Bool.false_and]; decide]
            simp only [u152_0, u152_1, u152_2, u152_3, u152_6, u152_7, u152_9, u152_11, u152_14, u152_15, u152_16, u152_19, u152_20, u152_22, u152_23, u152_26, u152_29, u152_30, u152_33, u152_34, u152_37, u152_38, u152_39, u152_40, u152_43, u152_44, u152_47, u152_48, u152_49, u152_50, u152_53, u152_56, u152_57, u152_60, u152_61, u152_64, u152_65, u152_66, u152_67, u152_68, u152_71, u152_72, u152_73, u152_76, u152_77, u152_80, u152_81, u152_82, u152_85, u152_88, u152_91, u152_94, u152_95, u1, hle, if_false, if_true, z1, hB8, hc, true_and, v1, v2, v3, e1, q1, h7, e2, q2, not_false_iff, nI_add]
        · rw [show b01 ((!decide (B 3 k = d) || (decide (B 4 k < iN N B) && decide (Y 89 (B 4 k) = nI (B 5 k)))) = true) = nI 1 by rw [decide_eq_false q1, Bool.not_false, Bool.true_or]; decide]
          simp only [u152_0, u152_1, u152_2, u152_3, u152_6, u152_7, u152_9, u152_11, u152_14, u152_15, u152_16, u152_19, u152_20, u152_22, u152_23, u152_26, u152_29, u152_30, u152_33, u152_34, u152_37, u152_38, u152_39, u152_40, u152_43, u152_44, u152_47, u152_48, u152_49, u152_50, u152_53, u152_56, u152_57, u152_60, u152_61, u152_64, u152_65, u152_66, u152_67, u152_68, u152_71, u152_72, u152_73, u152_76, u152_77, u152_80, u152_81, u152_82, u152_85, u152_88, u152_91, u152_94, u152_95, u1, hle, if_false, if_true, z1, hB8, hc, true_and, v1, e1, q1, nI_add]) b trivial
    refine e.trans ?_
    refine u152_21.trans ?_
    simp (disch := omega) only [u152_22, u152_23, u152_26, u1, nI_le8, Nat.le_refl, if_true]
    rfl
  obtain ⟨l3, e⟩ := it_runL (fun d (b : Bool) (l : Option Value) => T S (f + 5) 152 8 [some (.ref 73), some (.int (b01 (b = true))), some (.int (nI d)), l] [] (it d (goesM (mN N B) (fN N B)) (mBegM (mN N B) X)) Rt) (seenF N B w) (fun _ _ => True) 30 (fun _ _ _ _ => trivial) (fun d hd b l _ => by
    have h30 : ¬ 30 ≤ d := by omega
    have hg := fun Rt => s_mGoes (S := S) (f := f) (Rt := Rt) (show d < 100 by omega) (hMA d)
    have hg : ∀ Rt, T S (f + 4) 117 0 [some (.ref 73), some (.int (nI d)), none, none, none, none] [] (it d (goesM (mN N B) (fN N B)) (mBegM (mN N B) X)) Rt = Rt none (mRunM (mN N B) (fN N B) d X) := hg
    refine ⟨some (.int (nI (N 4))), u152_8.trans ?_⟩
    show _ = T S (f + 5) 152 8 [some (.ref 73), some (.int (b01 (seenF N B w d b = true))), some (.int (nI (d + 1))), some (.int (nI (N 4)))] [] (mRunM (mN N B) (fN N B) d X) Rt
    simp (disch := omega) only [u152_9, u152_11, u152_14, u152_15, u152_16, u152_19, u152_20, nI_le8, h30, if_false, hg, pu_some, pu_none]
    rw [inner d hd b]
    simp only [u152_88, u152_91, nI_add]) true none trivial
  have b0 : b01 (true = true) = nI 1 := by decide
  refine Eq.trans ?_ (e.trans ?_)
  · simp only [u152_0, u152_1, u152_2, u152_3, u152_6, u152_7, s_mBegins (MT_of hw hM), pu_some, pu_none]
    rfl
  · refine u152_8.trans ?_
    simp (disch := omega) only [u152_9, u152_11, u152_94, u152_95, nI_le8, Nat.le_refl, if_true, nar_b01, true_and]
    rfl
/-- the ships without each of which all comes out so -/
def nevF (N : Nat → Nat) (B : Nat → Nat → Nat) (k : Nat) (b : Int32) : Int32 := if seenV N B (wA N B (nI (2 ^ k))) = true then b ||| nI (2 ^ k) else b
def nevP (N : Nat → Nat) (B : Nat → Nat → Nat) : Int32 := it (fN N B) (nevF N B) (nI 0)
theorem or_0 (x : Int32) : x ||| nI 0 = x := by
  rw [show (nI 0 : Int32) = 0 from rfl]
  exact Int32.or_zero
theorem q_neverNow (h : Bs N B m) : ∃ M, Km m M ∧ MQt N B M ∧ ∀ (f : Nat) (Rt : Option Value → AMem → Prop), T S (f + 8) 151 0 [some (.ref 73), none, none] [] m Rt = Rt (some (.int (nevP N B))) M := by
  obtain ⟨M, x0, hR, hK, hM⟩ := rd_ok (S := S) h
  obtain ⟨h8, h8i, h6⟩ := Bs_m8 h
  obtain ⟨X, ⟨hQ, hKX⟩, e⟩ := it_runE (fun i (b : Int32) (x : AMem) (r : Nat × (Option Value → AMem → Prop)) => T S (r.1 + 8) 151 8 [some (.ref 73), some (.int b), some (.int (nI i))] [] x r.2) (nevF N B) (fun i s x => MQt N B x ∧ Km m x) (fN N B) (fun i hi b x ⟨hq, hk⟩ => by
    have s1 := sh8 i (by omega)
    have h64 := p2_lt (a := i) (by omega)
    have hM2 : MWn N B (wA N B (nI (2 ^ i))) (up x 73 16 (nI (2 ^ i))) := MQ_set hq
    have hk2 : Km m (up x 73 16 (nI (2 ^ i))) := Km_t hk (Km_up (by omega))
    obtain ⟨X2, v1, v2, v3⟩ := s_isSeen (S := S) (Bs_m h hk2) (Bs_ok h h64) hM2
    have hfl : x 73 10 = nI (fN N B) := by obtain ⟨y, hy⟩ := hq; exact hy.1.2.2
    have hle : (nI (fN N B) ≤ nI i) = False := by rw [nI_le8 (by omega) (by omega)]; exact eq_false (by omega)
    refine ⟨X2, ⟨⟨_, v1⟩, Km_t hk2 v2⟩, fun r => u151_8.trans ?_⟩
    unfold nevF
    by_cases q : seenV N B (wA N B (nI (2 ^ i))) = true
    · rw [if_pos q]
      simp only [u151_0, u151_1, u151_4, u151_5, u151_6, u151_7, u151_9, u151_10, u151_13, u151_16, u151_17, u151_18, u151_19, u151_20, u151_23, u151_24, u151_25, u151_28, u151_31, u151_32, u151_33, u151_34, u151_37, u151_38, u151_39, u151_40, u151_43, u151_46, u151_47, hfl, hle, if_false, s1, v3, pu_some, pu_none, b01_e0, q, not_true, nI_add]
    · rw [if_neg q]
      simp only [u151_0, u151_1, u151_4, u151_5, u151_6, u151_7, u151_9, u151_10, u151_13, u151_16, u151_17, u151_18, u151_19, u151_20, u151_23, u151_24, u151_25, u151_28, u151_31, u151_32, u151_33, u151_34, u151_37, u151_38, u151_39, u151_40, u151_43, u151_46, u151_47, hfl, hle, if_false, s1, v3, pu_some, pu_none, b01_e0, q, not_false_iff, if_true, Bool.false_eq_true, or_0, nI_add]) (nI 0) M ⟨⟨x0, hM⟩, hK⟩
  have hfl : X 73 10 = nI (fN N B) := by obtain ⟨y, hy⟩ := hQ; exact hy.1.2.2
  refine ⟨X, hKX, hQ, fun f Rt => ?_⟩
  have e := e (f, Rt)
  refine Eq.trans ?_ (e.trans ?_)
  · simp only [u151_0, u151_1, u151_4, u151_5, u151_6, u151_7, u151_9, u151_10, u151_13, u151_16, u151_17, u151_18, u151_19, u151_20, u151_23, u151_24, u151_25, u151_28, u151_31, u151_32, u151_33, u151_34, u151_37, u151_38, u151_39, u151_40, u151_43, u151_46, u151_47, Rd_e hR, pu_some, pu_none]
  · refine u151_8.trans ?_
    simp (disch := omega) only [u151_0, u151_1, u151_4, u151_5, u151_6, u151_7, u151_9, u151_10, u151_13, u151_16, u151_17, u151_18, u151_19, u151_20, u151_23, u151_24, u151_25, u151_28, u151_31, u151_32, u151_33, u151_34, u151_37, u151_38, u151_39, u151_40, u151_43, u151_46, u151_47, hfl, nI_le8, Nat.le_refl, if_true]
    rfl
/-- what he may have been -/
def wasP (N : Nat → Nat) (B : Nat → Nat → Nat) (row x : Nat) (k : Nat) (b : Int32) : Int32 := if seenV N B (up (w0 N B) row x (nI k)) = true then b ||| (nI 1 <<< (nI k &&& 31)) else b
def wasQ (N : Nat → Nat) (B : Nat → Nat → Nat) (x : Nat) (v : Int32) : Int32 := if v = nI 0 then it 4 (wasP N B 1 x) (nI 0) else it 10 (wasP N B 2 x) (nI 0)
set_option maxHeartbeats 1000000 in
theorem q_wasOf (h : Bs N B m) {k : Nat} {v : Int32} (hk : k < mN N B) (hv : v = nI 0 ∨ v = nI 1) : ∃ M, Km m M ∧ MQt N B M ∧ ∀ (f : Nat) (Rt : Option Value → AMem → Prop), T S (f + 8) 154 0 [some (.ref 73), some (.int (nI k)), some (.int v), none, none, none, none] [] m Rt = Rt (some (.int (wasQ N B k v))) M := by
  obtain ⟨M, x, hR, hK, hM⟩ := rd_ok (S := S) h
  obtain ⟨h8, h8i, h6⟩ := Bs_m8 h
  have hw := Bs_ok0 h
  have h0 : MWn N B (w0 N B) (up M 73 16 (nI 0)) := MQ_set ⟨x, hM⟩
  have hB9 : inB (nI k) 9 = true := inB8 (by omega) (by decide)
  have hc : (nI k).toNatClampNeg = k := nI_cl8 (by omega)
  have e1 : M 76 k = w0 N B 1 k := hM.2.2.1 1 k (by omega) (by omega) hk
  have e2 : M 77 k = w0 N B 2 k := hM.2.2.1 2 k (by omega) (by omega) hk
  have n01 : ¬ nI 0 = nI 1 := by decide
  have n10 : ¬ nI 1 = nI 0 := by decide
  have s12 : ∀ (w : AMem) (a b : Int32), up (up w 1 k a) 2 k b = up (up w 2 k b) 1 k a := fun w a b => by
    funext i j
    simp only [up_ap]
    by_cases z1 : i = 1 ∧ j = k
    · have z2 : ¬ (i = 2 ∧ j = k) := fun y => by omega
      rw [if_neg z2, if_pos z1, if_pos z1]
    · rw [if_neg z1, if_neg z1]
  have w1e : up (w0 N B) 1 k (w0 N B 1 k) = w0 N B := up_same
  have w2e : up (w0 N B) 2 k (w0 N B 2 k) = w0 N B := up_same
  have step : ∀ (X : AMem) (a b : Int32), (∃ a b, MWn N B (up (up (w0 N B) 1 k a) 2 k b) X) → MWn N B (up (up (w0 N B) 1 k a) 2 k b) (up (up X 76 k a) 77 k b) := fun X a b ⟨a0, b0, hX⟩ => by
    have y1 := MW_up (i := 1) (x := k) (v := a) hX (by decide)
    have y2 := MW_up (i := 2) (x := k) (v := b) y1 (by decide)
    rw [s12 (up (up (w0 N B) 1 k a0) 2 k b0), up_up, ← s12 (up (w0 N B) 1 k a0), up_up] at y2
    exact y2
  rcases hv with rfl | rfl
  · obtain ⟨X, ⟨hX, hKX⟩, e⟩ := it_runE (fun i (b : Int32) (x : AMem) (r : Nat × (Option Value → AMem → Prop)) => T S (r.1 + 8) 154 30 [some (.ref 73), some (.int (nI k)), some (.int (nI 0)), some (.int (w0 N B 1 k)), some (.int (w0 N B 2 k)), some (.int b), some (.int (nI i))] [] x r.2) (wasP N B 1 k) (fun i s x => (∃ a b, MWn N B (up (up (w0 N B) 1 k a) 2 k b) x) ∧ Km m x) 4 (fun i hi b x ⟨hx, hkx⟩ => by
      have hM2 := step x (nI i) (w0 N B 2 k) hx
      rw [s12, w2e] at hM2
      have hk2 : Km m (up (up x 76 k (nI i)) 77 k (w0 N B 2 k)) := Km_t hkx (Km_t (Km_up (by omega)) (Km_up (by omega)))
      have hw2 : Wkn N B (up (w0 N B) 1 k (nI i)) := Wok_up hw (by decide) ⟨by omega, by omega, by omega⟩
      obtain ⟨X2, v1, v2, v3⟩ := s_isSeen (S := S) (Bs_m h hk2) hw2 hM2
      have hle : ¬ 4 ≤ i := by omega
      refine ⟨X2, ⟨⟨nI i, w0 N B 2 k, by rw [s12, w2e]; exact v1⟩, Km_t hk2 v2⟩, fun r => u154_30.trans ?_⟩
      unfold wasP
      by_cases q : seenV N B (up (w0 N B) 1 k (nI i)) = true
      · rw [if_pos q]
        simp (disch := omega) only [u154_0, u154_1, u154_4, u154_5, u154_6, u154_9, u154_10, u154_13, u154_14, u154_15, u154_16, u154_17, u154_20, u154_21, u154_22, u154_24, u154_25, u154_27, u154_28, u154_32, u154_33, u154_36, u154_37, u154_40, u154_42, u154_45, u154_46, u154_49, u154_50, u154_51, u154_54, u154_56, u154_59, u154_60, u154_61, u154_62, u154_65, u154_66, u154_67, u154_68, u154_71, u154_73, u154_76, u154_78, u154_79, u154_81, u154_82, u154_85, u154_88, u154_89, u154_91, u154_92, u154_95, u154_96, u154_97, u154_99, u154_102, u154_105, u154_106, u154_109, u154_110, u154_111, u154_112, u154_113, u154_116, u154_117, u154_119, u154_120, u154_122, nI_le8, hle, if_false, if_true, n01, hB9, hc, true_and, v3, pu_some, pu_none, b01_e0, q, not_true, nI_add]
      · rw [if_neg q]
        simp (disch := omega) only [u154_0, u154_1, u154_4, u154_5, u154_6, u154_9, u154_10, u154_13, u154_14, u154_15, u154_16, u154_17, u154_20, u154_21, u154_22, u154_24, u154_25, u154_27, u154_28, u154_32, u154_33, u154_36, u154_37, u154_40, u154_42, u154_45, u154_46, u154_49, u154_50, u154_51, u154_54, u154_56, u154_59, u154_60, u154_61, u154_62, u154_65, u154_66, u154_67, u154_68, u154_71, u154_73, u154_76, u154_78, u154_79, u154_81, u154_82, u154_85, u154_88, u154_89, u154_91, u154_92, u154_95, u154_96, u154_97, u154_99, u154_102, u154_105, u154_106, u154_109, u154_110, u154_111, u154_112, u154_113, u154_116, u154_117, u154_119, u154_120, u154_122, nI_le8, hle, if_false, if_true, n01, hB9, hc, true_and, v3, pu_some, pu_none, b01_e0, q, not_false_iff, Bool.false_eq_true, or_0, nI_add]) (nI 0) (up M 73 16 (nI 0)) ⟨⟨w0 N B 1 k, w0 N B 2 k, by rw [w1e, w2e]; exact h0⟩, Km_t hK (Km_up (Or.inl ⟨rfl, by decide⟩))⟩
    have hF := step X (w0 N B 1 k) (w0 N B 2 k) hX
    rw [w1e, w2e] at hF
    refine ⟨up (up X 76 k (w0 N B 1 k)) 77 k (w0 N B 2 k), Km_t hKX (Km_t (Km_up (by omega)) (Km_up (by omega))), MQ_0 hF, fun f Rt => ?_⟩
    have e := e (f, Rt)
    refine Eq.trans ?_ (e.trans ?_)
    · simp only [u154_0, u154_1, u154_4, u154_5, u154_6, u154_9, u154_10, u154_13, u154_14, u154_15, u154_16, u154_17, u154_20, u154_21, u154_22, u154_24, u154_25, u154_27, u154_28, u154_32, u154_33, u154_36, u154_37, u154_40, u154_42, u154_45, u154_46, u154_49, u154_50, u154_51, u154_54, u154_56, u154_59, u154_60, u154_61, u154_62, u154_65, u154_66, u154_67, u154_68, u154_71, u154_73, u154_76, u154_78, u154_79, u154_81, u154_82, u154_85, u154_88, u154_89, u154_91, u154_92, u154_95, u154_96, u154_97, u154_99, u154_102, u154_105, u154_106, u154_109, u154_110, u154_111, u154_112, u154_113, u154_116, u154_117, u154_119, u154_120, u154_122, Rd_e hR, pu_some, pu_none, hB9, hc, true_and, up_row (show (76 : Nat) ≠ 73 by decide), up_row (show (77 : Nat) ≠ 73 by decide), e1, e2]
    · refine u154_30.trans ?_
      simp (disch := omega) only [u154_0, u154_1, u154_4, u154_5, u154_6, u154_9, u154_10, u154_13, u154_14, u154_15, u154_16, u154_17, u154_20, u154_21, u154_22, u154_24, u154_25, u154_27, u154_28, u154_32, u154_33, u154_36, u154_37, u154_40, u154_42, u154_45, u154_46, u154_49, u154_50, u154_51, u154_54, u154_56, u154_59, u154_60, u154_61, u154_62, u154_65, u154_66, u154_67, u154_68, u154_71, u154_73, u154_76, u154_78, u154_79, u154_81, u154_82, u154_85, u154_88, u154_89, u154_91, u154_92, u154_95, u154_96, u154_97, u154_99, u154_102, u154_105, u154_106, u154_109, u154_110, u154_111, u154_112, u154_113, u154_116, u154_117, u154_119, u154_120, u154_122, nI_le8, Nat.le_refl, if_true, hB9, hc, true_and]
      rfl
  · obtain ⟨X, ⟨hX, hKX⟩, e⟩ := it_runE (fun i (b : Int32) (x : AMem) (r : Nat × (Option Value → AMem → Prop)) => T S (r.1 + 8) 154 30 [some (.ref 73), some (.int (nI k)), some (.int (nI 1)), some (.int (w0 N B 1 k)), some (.int (w0 N B 2 k)), some (.int b), some (.int (nI i))] [] x r.2) (wasP N B 2 k) (fun i s x => (∃ a b, MWn N B (up (up (w0 N B) 1 k a) 2 k b) x) ∧ Km m x) 10 (fun i hi b x ⟨hx, hkx⟩ => by
      have hM2 := step x (w0 N B 1 k) (nI i) hx
      rw [w1e] at hM2
      have hk2 : Km m (up (up x 76 k (w0 N B 1 k)) 77 k (nI i)) := Km_t hkx (Km_t (Km_up (by omega)) (Km_up (by omega)))
      have hw2 : Wkn N B (up (w0 N B) 2 k (nI i)) := Wok_up hw (by decide) ⟨by omega, by omega, by omega⟩
      obtain ⟨X2, v1, v2, v3⟩ := s_isSeen (S := S) (Bs_m h hk2) hw2 hM2
      have hle : ¬ 10 ≤ i := by omega
      refine ⟨X2, ⟨⟨w0 N B 1 k, nI i, by rw [w1e]; exact v1⟩, Km_t hk2 v2⟩, fun r => u154_30.trans ?_⟩
      unfold wasP
      by_cases q : seenV N B (up (w0 N B) 2 k (nI i)) = true
      · rw [if_pos q]
        simp (disch := omega) only [u154_0, u154_1, u154_4, u154_5, u154_6, u154_9, u154_10, u154_13, u154_14, u154_15, u154_16, u154_17, u154_20, u154_21, u154_22, u154_24, u154_25, u154_27, u154_28, u154_32, u154_33, u154_36, u154_37, u154_40, u154_42, u154_45, u154_46, u154_49, u154_50, u154_51, u154_54, u154_56, u154_59, u154_60, u154_61, u154_62, u154_65, u154_66, u154_67, u154_68, u154_71, u154_73, u154_76, u154_78, u154_79, u154_81, u154_82, u154_85, u154_88, u154_89, u154_91, u154_92, u154_95, u154_96, u154_97, u154_99, u154_102, u154_105, u154_106, u154_109, u154_110, u154_111, u154_112, u154_113, u154_116, u154_117, u154_119, u154_120, u154_122, nI_le8, hle, if_false, if_true, n10, hB9, hc, true_and, v3, pu_some, pu_none, b01_e0, q, not_true, nI_add]
      · rw [if_neg q]
        simp (disch := omega) only [u154_0, u154_1, u154_4, u154_5, u154_6, u154_9, u154_10, u154_13, u154_14, u154_15, u154_16, u154_17, u154_20, u154_21, u154_22, u154_24, u154_25, u154_27, u154_28, u154_32, u154_33, u154_36, u154_37, u154_40, u154_42, u154_45, u154_46, u154_49, u154_50, u154_51, u154_54, u154_56, u154_59, u154_60, u154_61, u154_62, u154_65, u154_66, u154_67, u154_68, u154_71, u154_73, u154_76, u154_78, u154_79, u154_81, u154_82, u154_85, u154_88, u154_89, u154_91, u154_92, u154_95, u154_96, u154_97, u154_99, u154_102, u154_105, u154_106, u154_109, u154_110, u154_111, u154_112, u154_113, u154_116, u154_117, u154_119, u154_120, u154_122, nI_le8, hle, if_false, if_true, n10, hB9, hc, true_and, v3, pu_some, pu_none, b01_e0, q, not_false_iff, Bool.false_eq_true, or_0, nI_add]) (nI 0) (up M 73 16 (nI 0)) ⟨⟨w0 N B 1 k, w0 N B 2 k, by rw [w1e, w2e]; exact h0⟩, Km_t hK (Km_up (Or.inl ⟨rfl, by decide⟩))⟩
    have hF := step X (w0 N B 1 k) (w0 N B 2 k) hX
    rw [w1e, w2e] at hF
    refine ⟨up (up X 76 k (w0 N B 1 k)) 77 k (w0 N B 2 k), Km_t hKX (Km_t (Km_up (by omega)) (Km_up (by omega))), MQ_0 hF, fun f Rt => ?_⟩
    have e := e (f, Rt)
    refine Eq.trans ?_ (e.trans ?_)
    · simp only [u154_0, u154_1, u154_4, u154_5, u154_6, u154_9, u154_10, u154_13, u154_14, u154_15, u154_16, u154_17, u154_20, u154_21, u154_22, u154_24, u154_25, u154_27, u154_28, u154_32, u154_33, u154_36, u154_37, u154_40, u154_42, u154_45, u154_46, u154_49, u154_50, u154_51, u154_54, u154_56, u154_59, u154_60, u154_61, u154_62, u154_65, u154_66, u154_67, u154_68, u154_71, u154_73, u154_76, u154_78, u154_79, u154_81, u154_82, u154_85, u154_88, u154_89, u154_91, u154_92, u154_95, u154_96, u154_97, u154_99, u154_102, u154_105, u154_106, u154_109, u154_110, u154_111, u154_112, u154_113, u154_116, u154_117, u154_119, u154_120, u154_122, Rd_e hR, pu_some, pu_none, hB9, hc, true_and, up_row (show (76 : Nat) ≠ 73 by decide), up_row (show (77 : Nat) ≠ 73 by decide), e1, e2]
    · refine u154_30.trans ?_
      simp (disch := omega) only [u154_0, u154_1, u154_4, u154_5, u154_6, u154_9, u154_10, u154_13, u154_14, u154_15, u154_16, u154_17, u154_20, u154_21, u154_22, u154_24, u154_25, u154_27, u154_28, u154_32, u154_33, u154_36, u154_37, u154_40, u154_42, u154_45, u154_46, u154_49, u154_50, u154_51, u154_54, u154_56, u154_59, u154_60, u154_61, u154_62, u154_65, u154_66, u154_67, u154_68, u154_71, u154_73, u154_76, u154_78, u154_79, u154_81, u154_82, u154_85, u154_88, u154_89, u154_91, u154_92, u154_95, u154_96, u154_97, u154_99, u154_102, u154_105, u154_106, u154_109, u154_110, u154_111, u154_112, u154_113, u154_116, u154_117, u154_119, u154_120, u154_122, nI_le8, Nat.le_refl, if_true, n10, if_false, hB9, hc, true_and]
      rfl
end MSN
