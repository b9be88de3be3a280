section MST
variable {S : AScr} {m M X : AMem} {w : AMem} {N : Nat → Nat} {B : Nat → Nat → Nat}
/-- other lodgings by lot -/
def ltV (N : Nat → Nat) (B : Nat → Nat → Nat) (y : Int32) : Int32 := usr y (nI 16) - usr y (nI 16) / nI (iN N B) * nI (iN N B)
def poF (N : Nat → Nat) (B : Nat → Nat → Nat) (k : Nat) (s : AMem × Int32) : AMem × Int32 := (up s.1 4 k (ltV N B (lotV s.2)), lotV s.2)
def poW (N : Nat → Nat) (B : Nat → Nat → Nat) (seed : Int32) : AMem := if iN N B = 0 then w0 N B else (it (mN N B) (poF N B) (w0 N B, seed)).1
theorem usr16 (x : Int32) : ∃ q, q < 65536 ∧ usr x (nI 16) = nI q := by
  have e : usr x (nI 16) = (x.toUInt32 >>> 16).toInt32 := rfl
  refine ⟨(x.toUInt32 >>> 16).toNat, ?_, ?_⟩
  · rw [UInt32.toNat_shiftRight]
    have h := UInt32.toNat_lt x.toUInt32
    have e16 : (16 : UInt32).toNat % 32 = 16 := by decide
    rw [e16, Nat.shiftRight_eq_div_pow]
    omega
  · rw [e]
    apply Int32.toBitVec_inj.mp
    apply BitVec.eq_of_toNat_eq
    show (x.toUInt32 >>> 16).toNat = (BitVec.ofNat 32 (x.toUInt32 >>> 16).toNat).toNat
    rw [BitVec.toNat_ofNat, Nat.mod_eq_of_lt (UInt32.toNat_lt _)]
theorem lt_ok (hi : 0 < iN N B ∧ iN N B ≤ 8) (y : Int32) : ∃ v, v < iN N B ∧ ltV N B y = nI v := by
  obtain ⟨q, hq, e⟩ := usr16 y
  refine ⟨q % iN N B, Nat.mod_lt _ hi.1, ?_⟩
  unfold ltV
  rw [e, nI_rem8 (by omega) hi.1 (by omega)]
theorem po_W (h : Bs N B m) (seed : Int32) (hi : 0 < iN N B) : ∀ n, Wkn N B (it n (poF N B) (w0 N B, seed)).1 ∧ ∀ i k, i ≠ 4 → (it n (poF N B) (w0 N B, seed)).1 i k = w0 N B i k := by
  obtain ⟨h8, h8i, h6⟩ := Bs_m8 h
  intro n
  induction n with
  | zero => exact ⟨Bs_ok0 h, fun _ _ _ => rfl⟩
  | succ n ih =>
    rw [it_s]
    unfold poF
    obtain ⟨v, hv, e⟩ := lt_ok (N := N) (B := B) ⟨hi, h8i⟩ (lotV (it n (poF N B) (w0 N B, seed)).2)
    unfold poF at e
    dsimp only
    rw [e]
    refine ⟨Wok_up ih.1 (by decide) ⟨by omega, by omega, by omega⟩, fun i k hik => ?_⟩
    rw [up_row hik]
    exact ih.2 i k hik
theorem poW_ok (h : Bs N B m) (seed : Int32) : Wkn N B (poW N B seed) ∧ ∀ i k, i ≠ 4 → poW N B seed i k = w0 N B i k := by
  unfold poW
  by_cases q : iN N B = 0
  · rw [if_pos q]
    exact ⟨Bs_ok0 h, fun _ _ _ => rfl⟩
  · rw [if_neg q]
    exact po_W h seed (by omega) _
/-- the tables stand but for the lodgings -/
def MQw (N : Nat → Nat) (B : Nat → Nat → Nat) (M : AMem) : Prop := ∃ w', MWn N B w' M ∧ ∀ i k, 1 ≤ i → i ≠ 4 → w' i k = w0 N B i k
def poA (N : Nat → Nat) (B : Nat → Nat → Nat) (seed x : Int32) : Int32 := if x = -1 then saiP (mN N B) (RR N B (poW N B seed) 29) else RR N B (poW N B seed) 29 89 x.toNatClampNeg
set_option maxHeartbeats 1000000 in
theorem q_portOf (h : Bs N B m) {seed x : Int32} (hx : x = -1 ∨ ∃ k, k < iN N B ∧ x = nI k) : ∃ M, Km m M ∧ MQw N B M ∧ ∀ (f : Nat) (Rt : Option Value → AMem → Prop), T S (f + 8) 162 0 [some (.ref 73), some (.int seed), some (.int x), none, none] [] m Rt = Rt (some (.int (poA N B seed x))) M := by
  obtain ⟨M, x0, hR, hK, hM⟩ := rd_ok (S := S) h
  obtain ⟨h8, h8i, h6⟩ := Bs_m8 h
  have h0 : MWn N B (w0 N B) (up M 73 16 (nI 0)) := MQ_set ⟨x0, hM⟩
  have k0 : Km m (up M 73 16 (nI 0)) := Km_t hK (Km_up (Or.inl ⟨rfl, by decide⟩))
  have hPW := poW_ok h seed
  have fin : ∃ X, MWn N B (poW N B seed) X ∧ Km m X ∧ ∀ (f : Nat) (Rt : Option Value → AMem → Prop), ∃ l3 l4, T S (f + 8) 162 14 [some (.ref 73), some (.int seed), some (.int x), some (.int seed), some (.int (nI 0))] [] (up M 73 16 (nI 0)) Rt = T S (f + 8) 162 62 [some (.ref 73), some (.int seed), some (.int x), l3, l4] [] X Rt := by
    by_cases hi0 : iN N B = 0
    · refine ⟨up M 73 16 (nI 0), by unfold poW; rw [if_pos hi0]; exact h0, k0, fun f Rt => ⟨some (.int seed), some (.int (nI 0)), u162_14.trans ?_⟩⟩
      have e2 : up M 73 16 (nI 0) 73 2 = nI (mN N B) := h0.1.1
      have e7 : up M 73 16 (nI 0) 73 7 = nI 0 := by rw [h0.1.2.1, hi0]
      by_cases hm0 : mN N B = 0
      · rw [hm0] at e2
        simp (disch := omega) only [u162_16, u162_17, u162_20, e2, nI_le8, Nat.le_refl, if_true]
      · have : ¬ mN N B ≤ 0 := by omega
        simp (disch := omega) only [u162_16, u162_17, u162_20, u162_23, u162_24, u162_27, e2, e7, nI_le8, this, if_false, Nat.le_refl, if_true]
    · obtain ⟨X, ⟨hX, hKX⟩, e⟩ := it_runE (fun i (s : AMem × Int32) (y : AMem) (r : Nat × (Option Value → AMem → Prop)) => T S (r.1 + 8) 162 14 [some (.ref 73), some (.int seed), some (.int x), some (.int s.2), some (.int (nI i))] [] y r.2) (poF N B) (fun i s y => MWn N B s.1 y ∧ Km m y) (mN N B) (fun i hi s y ⟨hy, hk⟩ => by
        have e2 : y 73 2 = nI (mN N B) := hy.1.1
        have e7 : y 73 7 = nI (iN N B) := hy.1.2.1
        have hle : ¬ mN N B ≤ i := by omega
        have hi1 : ¬ iN N B ≤ 0 := by omega
        have hB9 : inB (nI i) 9 = true := inB8 (by omega) (by decide)
        have hc : (nI i).toNatClampNeg = i := nI_cl8 (by omega)
        have d0 : ¬ nI (iN N B) = 0 := fun z => by
          have z : nI (iN N B) = nI 0 := z
          rw [nI_eq8 (by omega) (by omega)] at z
          exact hi0 z
        refine ⟨up y 79 i (ltV N B (lotV s.2)), ⟨MW_up (i := 4) (x := i) hy (by decide), Km_t hk (Km_up (by omega))⟩, fun r => u162_14.trans ?_⟩
        simp (disch := omega) only [u162_0, u162_1, u162_4, u162_5, u162_6, u162_9, u162_10, u162_11, u162_12, u162_16, u162_17, u162_20, u162_23, u162_24, u162_27, u162_30, u162_33, u162_34, u162_35, u162_38, u162_39, u162_40, u162_41, u162_44, u162_46, u162_47, u162_49, u162_50, u162_51, u162_54, u162_55, u162_56, u162_59, u162_63, u162_65, u162_68, u162_69, u162_70, u162_73, u162_74, u162_77, u162_80, u162_81, u162_84, u162_85, u162_86, e2, e7, nI_le8, hle, hi1, if_false, d0, not_false_iff, true_and, hB9, hc, nI_add]
        rfl) (w0 N B, seed) (up M 73 16 (nI 0)) ⟨h0, k0⟩
      have hpw : poW N B seed = (it (mN N B) (poF N B) (w0 N B, seed)).1 := by unfold poW; rw [if_neg hi0]
      have e2 : X 73 2 = nI (mN N B) := hX.1.1
      refine ⟨X, by rw [hpw]; exact hX, hKX, fun f Rt => ⟨some (.int (it (mN N B) (poF N B) (w0 N B, seed)).2), some (.int (nI (mN N B))), (e (f, Rt)).trans (u162_14.trans ?_)⟩⟩
      simp (disch := omega) only [u162_16, u162_17, u162_20, e2, nI_le8, Nat.le_refl, if_true]
  obtain ⟨X, hX, hKX, e⟩ := fin
  have hE := mr_eq hPW.1 hX (z := 29) (by decide)
  have hrun := fun f Rt => s_mr (S := S) (f := f) (Rt := Rt) hPW.1 hX (z := 29) (by decide)
  have hX2 : MWn N B (poW N B seed) (mRunM (mN N B) (fN N B) 29 X) := MW_run hX
  refine ⟨mRunM (mN N B) (fN N B) 29 X, Km_t hKX Km_run, ⟨poW N B seed, hX2, fun i k _ h4 => hPW.2 i k h4⟩, fun f Rt => ?_⟩
  obtain ⟨l3, l4, e⟩ := e f Rt
  have es := fun f Rt => s_msail (S := S) (f := f) (Rt := Rt) hE hX2.1.1 h8
  unfold poA
  refine Eq.trans ?_ (e.trans ?_)
  · simp only [u162_0, u162_1, u162_4, u162_5, u162_6, u162_9, u162_10, u162_11, u162_12, Rd_e hR, pu_some, pu_none]
  · rcases hx with rfl | ⟨k, hk, rfl⟩
    · simp only [u162_0, u162_1, u162_4, u162_5, u162_6, u162_9, u162_10, u162_11, u162_12, u162_16, u162_17, u162_20, u162_23, u162_24, u162_27, u162_30, u162_33, u162_34, u162_35, u162_38, u162_39, u162_40, u162_41, u162_44, u162_46, u162_47, u162_49, u162_50, u162_51, u162_54, u162_55, u162_56, u162_59, u162_62, u162_63, u162_65, u162_68, u162_69, u162_70, u162_73, u162_74, u162_77, u162_80, u162_81, u162_84, u162_85, u162_86, hrun, pu_some, pu_none, if_true, es]
    · have hn1 := nI_ne1 (k := k) (by omega)
      have hB8 : inB (nI k) 8 = true := inB8 (by omega) (by decide)
      have hc : (nI k).toNatClampNeg = k := nI_cl8 (by omega)
      simp only [u162_0, u162_1, u162_4, u162_5, u162_6, u162_9, u162_10, u162_11, u162_12, u162_16, u162_17, u162_20, u162_23, u162_24, u162_27, u162_30, u162_33, u162_34, u162_35, u162_38, u162_39, u162_40, u162_41, u162_44, u162_46, u162_47, u162_49, u162_50, u162_51, u162_54, u162_55, u162_56, u162_59, u162_62, u162_63, u162_65, u162_68, u162_69, u162_70, u162_73, u162_74, u162_77, u162_80, u162_81, u162_84, u162_85, u162_86, hrun, pu_some, pu_none, hn1, if_false, hB8, hc, true_and, hE.2.1 k (by omega)]
/-- lowest terms -/
theorem lN_div {a b : Nat} (ha : a < 2 ^ 31) (h0 : 0 < b) (hb : b < 2 ^ 31) : lN a / lN b = lN (a / b) := by
  apply Int64.toInt_inj.mp
  rw [lg_ldiv_nonneg (by rw [lN_toInt ha]; omega) (by rw [lN_toInt hb]; omega), lN_toInt ha, lN_toInt hb, lN_toInt (Nat.lt_of_le_of_lt (Nat.div_le_self a b) ha)]
  first | rfl | exact (Int.natCast_ediv _ _).symm
theorem lN_rem {a b : Nat} (ha : a < 2 ^ 31) (h0 : 0 < b) (hb : b < 2 ^ 31) : lN a - lN a / lN b * lN b = lN (a % b) := by
  rw [lN_div ha h0 hb, lN_mul, lN_sub (Nat.div_mul_le_self a b)]
  exact congrArg lN (by have := Nat.div_add_mod' a b; omega)
theorem lN_ne0 {b : Nat} (h0 : 0 < b) (hb : b < 2 ^ 31) : ¬ lN b = 0 := fun z => by
  have z : lN b = lN 0 := z
  rw [lN_eq hb (by omega)] at z
  omega
theorem cmp_0 {b : Nat} (hb : b < 2 ^ 31) : (lg_cmp (lN b) (lN 0) = nI 0) = (b = 0) := by
  have h := lg_cmp_eq (lN b) (lN 0)
  rw [lN_eq hb (by omega)] at h
  exact propext h
theorem s_low {a b : Nat} {v : Int32} (ha : a < 2 ^ 31) (hb0 : 0 < b) (hb : b < 2 ^ 31) {f : Nat} {Rt : Option Value → AMem → Prop} : T S (f + 1) 159 0 [some (.long (lN a)), none, some (.long (lN b)), none, some (.int v), none, none, none, none, none, none] [] m Rt = Rt (some (.long (if v = nI 0 then lN (a / Nat.gcd a b) else lN (b / Nat.gcd a b)))) m := by
  have hg0 : 0 < Nat.gcd a b := Nat.gcd_pos_of_pos_right _ hb0
  have hgb : Nat.gcd a b ≤ b := Nat.gcd_le_right _ hb0
  have fin : ∀ l9 l10, T S (f + 1) 159 6 [some (.long (lN a)), none, some (.long (lN b)), none, some (.int v), some (.long (lN (Nat.gcd a b))), none, some (.long (lN 0)), none, l9, l10] [] m Rt = Rt (some (.long (if v = nI 0 then lN (a / Nat.gcd a b) else lN (b / Nat.gcd a b)))) m := fun l9 l10 => by
    have n0 := lN_ne0 hg0 (by omega)
    refine u159_6.trans ?_
    by_cases v0 : v = nI 0
    · simp only [u159_0, u159_1, u159_3, u159_4, u159_8, u159_9, u159_10, u159_13, u159_15, u159_17, u159_18, u159_20, u159_22, u159_24, u159_26, u159_28, u159_31, u159_33, u159_36, u159_37, u159_39, u159_40, u159_43, u159_44, u159_46, u159_47, cmp_0 (show 0 < 2 ^ 31 by decide), if_true, v0, n0, not_false_iff, true_and, lN_div ha hg0 (by omega)]
    · simp only [u159_0, u159_1, u159_3, u159_4, u159_8, u159_9, u159_10, u159_13, u159_15, u159_17, u159_18, u159_20, u159_22, u159_24, u159_26, u159_28, u159_31, u159_33, u159_36, u159_37, u159_39, u159_40, u159_43, u159_44, u159_46, u159_47, cmp_0 (show 0 < 2 ^ 31 by decide), if_true, if_false, v0, n0, not_false_iff, true_and, lN_div hb hg0 (by omega)]
  have key : ∀ q p l9 l10, p < 2 ^ 31 → q < 2 ^ 31 → Nat.gcd p q = Nat.gcd a b → T S (f + 1) 159 6 [some (.long (lN a)), none, some (.long (lN b)), none, some (.int v), some (.long (lN p)), none, some (.long (lN q)), none, l9, l10] [] m Rt = Rt (some (.long (if v = nI 0 then lN (a / Nat.gcd a b) else lN (b / Nat.gcd a b)))) m := by
    intro q
    induction q using Nat.strongRecOn with
    | _ q ih =>
      intro p l9 l10 hp hq hg
      by_cases z : q = 0
      · subst z
        rw [Nat.gcd_zero_right] at hg
        rw [hg]
        exact fin l9 l10
      · have n0 := lN_ne0 (show 0 < q by omega) hq
        have hc : (lg_cmp (lN q) (lN 0) = nI 0) = False := by rw [cmp_0 hq]; exact eq_false z
        have hlt : p % q < q := Nat.mod_lt _ (by omega)
        have hg2 : Nat.gcd q (p % q) = Nat.gcd a b := by
          rw [← hg, Nat.gcd_comm p q, Nat.gcd_rec q p, Nat.gcd_comm (p % q) q]
        refine u159_6.trans ?_
        simp only [u159_8, u159_9, u159_10, u159_13, u159_15, u159_17, u159_18, u159_20, u159_22, u159_24, u159_26, u159_28, hc, if_false, n0, not_false_iff, true_and, lN_rem hp (show 0 < q by omega) hq]
        exact ih (p % q) hlt q _ _ hq (by omega) hg2
  refine Eq.trans ?_ (key b a none none ha hb rfl)
  simp only [u159_0, u159_1, u159_3, u159_4]
theorem stormB_e {fleet : Nat} (h : fleet ≤ 6) : lN 1 <<< ((nI (4 * fleet)).toInt64 &&& 63) = lN (2 ^ (4 * fleet)) := by
  rcases (show fleet = 0 ∨ fleet = 1 ∨ fleet = 2 ∨ fleet = 3 ∨ fleet = 4 ∨ fleet = 5 ∨ fleet = 6 by omega) with rfl | rfl | rfl | rfl | rfl | rfl | rfl <;> decide +kernel
/-- the weight of a set of ships away, of c sixteenths -/
def wgN (fleet c a : Nat) : Nat := it fleet (fun s w => if a.testBit s = true then w * (16 - c) else w * c) 1
theorem wg_le {c a : Nat} (hc : c ≤ 16) : ∀ n, wgN n c a ≤ 16 ^ n := by
  intro n
  induction n with
  | zero => exact Nat.le_refl _
  | succ n ih =>
    show (if a.testBit n = true then wgN n c a * (16 - c) else wgN n c a * c) ≤ 16 ^ n * 16
    split
    · exact Nat.mul_le_mul ih (by omega)
    · exact Nat.mul_le_mul ih hc
/-- how likely, in parts -/
def stN (N : Nat → Nat) (B : Nat → Nat → Nat) (c x day : Nat) (n : Nat) : Nat := it n (fun a (s : Nat) => if RR N B (wA N B (nI a)) day 93 x = -1 then s else s + wgN (fN N B) c a) 0
theorem st_le {c x day : Nat} (hc : c ≤ 16) : ∀ n, stN N B c x day n ≤ n * 16 ^ fN N B := by
  intro n
  induction n with
  | zero => show 0 ≤ _; omega
  | succ n ih =>
    show (if RR N B (wA N B (nI n)) day 93 x = -1 then stN N B c x day n else stN N B c x day n + wgN (fN N B) c n) ≤ (n + 1) * 16 ^ fN N B
    have := wg_le (a := n) hc (fN N B)
    rw [Nat.add_mul]
    split <;> omega
def stA (N : Nat → Nat) (B : Nat → Nat → Nat) (c x day : Nat) (v : Int32) : Int64 := if v = nI 0 then lN (stN N B c x day (2 ^ fN N B) / Nat.gcd (stN N B c x day (2 ^ fN N B)) (2 ^ (4 * fN N B))) else lN (2 ^ (4 * fN N B) / Nat.gcd (stN N B c x day (2 ^ fN N B)) (2 ^ (4 * fN N B)))
theorem i2l (k : Nat) (h : k < 2 ^ 31) : (nI k).toInt64 = lN k := nI_l h
set_option maxHeartbeats 1000000 in
theorem q_stormOf (h : Bs N B m) {c x day : Nat} {v : Int32} (hc : c ≤ 16) (hx : x < mN N B) (hd : day < 30) : ∃ M, Km m M ∧ MQt N B M ∧ ∀ (f : Nat) (Rt : Option Value → AMem → Prop), T S (f + 8) 158 0 [some (.ref 73), some (.int (nI c)), some (.int (nI x)), some (.int (nI day)), some (.int v), none, none, none, none, none, none] [] m Rt = Rt (some (.long (stA N B c x day v))) M := by
  obtain ⟨M, x0, hR, hK, hM⟩ := rd_ok (S := S) h
  obtain ⟨h8, h8i, h6⟩ := Bs_m8 h
  have p64 := p2_le h6
  have fl : ∀ X, MQt N B X → X 73 10 = nI (fN N B) := fun X ⟨y, hy⟩ => hy.1.2.2
  have hs1 := sh1 h6
  have hB8 : inB (nI x) 8 = true := inB8 (by omega) (by decide)
  have hcx : (nI x).toNatClampNeg = x := nI_cl8 (by omega)
  have e16 : nI 16 - nI c = nI (16 - c) := nI_sub hc
  obtain ⟨⟨X, lx⟩, ⟨hQ, hKX⟩, e⟩ := it_runE (fun a (s : Nat) (y : AMem × Option Value × Option Value × Option Value) (r : Nat × (Option Value → AMem → Prop)) => T S (r.1 + 8) 158 10 [some (.ref 73), some (.int (nI c)), some (.int (nI x)), some (.int (nI day)), some (.int v), some (.long (lN s)), none, some (.int (nI a)), y.2.1, y.2.2.1, y.2.2.2] [] y.1 r.2) (fun a (s : Nat) => if RR N B (wA N B (nI a)) day 93 x = -1 then s else s + wgN (fN N B) c a) (fun a s y => MQt N B y.1 ∧ Km m y.1) (2 ^ fN N B) (fun a ha s y ⟨hq, hk⟩ => by
    have hfl := fl _ hq
    have hle : (nI (2 ^ fN N B) ≤ nI a) = False := by rw [nI_le8 (by omega) (by omega)]; exact eq_false (by omega)
    have hM2 : MWn N B (wA N B (nI a)) (up y.1 73 16 (nI a)) := MQ_set hq
    have hw2 : Wkn N B (wA N B (nI a)) := Bs_ok h (by omega)
    have hE := mr_eq hw2 hM2 (z := day) (by omega)
    have e93 := (hE.1 x hx).2.2.2
    have hrun := fun f Rt => s_mr (S := S) (f := f) (Rt := Rt) hw2 hM2 (z := day) (by omega)
    have inner := fun (f : Nat) (Rt : Option Value → AMem → Prop) => it_run (fun i (g : Nat) => T S (f + 8) 158 27 [some (.ref 73), some (.int (nI c)), some (.int (nI x)), some (.int (nI day)), some (.int v), some (.long (lN s)), none, some (.int (nI a)), some (.long (lN g)), none, some (.int (nI i))] [] y.1 Rt) (fun s w => if a.testBit s = true then w * (16 - c) else w * c) (fun _ _ => True) (fN N B) (fun _ _ _ _ => trivial) (fun i hi g _ => by
      have hle2 : (nI (fN N B) ≤ nI i) = False := by rw [nI_le8 (by omega) (by omega)]; exact eq_false (by omega)
      have hb := bit_1 (b := a) (k := i) (by omega) (by omega)
      refine u158_27.trans ?_
      by_cases q : a.testBit i = true
      · rw [if_pos q]
        have q2 := hb.mpr q
        simp only [u158_0, u158_1, u158_4, u158_5, u158_7, u158_8, u158_12, u158_13, u158_14, u158_17, u158_18, u158_21, u158_22, u158_24, u158_25, u158_29, u158_30, u158_33, u158_36, u158_38, u158_40, u158_42, u158_45, u158_48, u158_50, u158_51, u158_52, u158_53, u158_56, u158_57, u158_58, u158_59, u158_61, u158_64, u158_68, u158_70, u158_73, u158_74, u158_75, u158_78, u158_80, u158_81, u158_84, u158_85, u158_86, u158_87, u158_90, u158_92, u158_95, u158_96, u158_97, u158_99, u158_102, u158_105, u158_107, u158_108, u158_109, u158_110, u158_113, u158_114, u158_115, u158_117, u158_120, hfl, hle2, if_false, s_mIsIn, pu_some, pu_none, b01_e0, q2, not_true, e16, i2l (16 - c) (by omega), lN_mul, nI_add]
      · rw [if_neg q]
        have q2 : ¬ (nI a >>> (nI i &&& 31)) &&& nI 1 = nI 1 := fun z => q (hb.mp z)
        simp only [u158_0, u158_1, u158_4, u158_5, u158_7, u158_8, u158_12, u158_13, u158_14, u158_17, u158_18, u158_21, u158_22, u158_24, u158_25, u158_29, u158_30, u158_33, u158_36, u158_38, u158_40, u158_42, u158_45, u158_48, u158_50, u158_51, u158_52, u158_53, u158_56, u158_57, u158_58, u158_59, u158_61, u158_64, u158_68, u158_70, u158_73, u158_74, u158_75, u158_78, u158_80, u158_81, u158_84, u158_85, u158_86, u158_87, u158_90, u158_92, u158_95, u158_96, u158_97, u158_99, u158_102, u158_105, u158_107, u158_108, u158_109, u158_110, u158_113, u158_114, u158_115, u158_117, u158_120, hfl, hle2, if_false, s_mIsIn, pu_some, pu_none, b01_e0, q2, not_false_iff, if_true, i2l c (by omega), lN_mul, nI_add]) 1 trivial
    refine ⟨(mRunM (mN N B) (fN N B) day (up y.1 73 16 (nI a)), some (.long (lN (wgN (fN N B) c a))), none, some (.int (nI (fN N B)))), ⟨⟨nI a, MW_run hM2⟩, Km_t hk (Km_t (Km_up (by omega)) Km_run)⟩, fun r => u158_10.trans ?_⟩
    simp only [u158_12, u158_13, u158_14, u158_17, u158_18, u158_21, u158_22, u158_24, u158_25, hfl, hs1, hle, if_false]
    refine (inner r.1 r.2).trans (u158_27.trans ?_)
    have hw : it (fN N B) (fun s w => if a.testBit s = true then w * (16 - c) else w * c) 1 = wgN (fN N B) c a := rfl
    rw [hw, ← e93]
    by_cases q : mRunM (mN N B) (fN N B) day (up y.1 73 16 (nI a)) 93 x = -1
    · simp (disch := omega) only [u158_0, u158_1, u158_4, u158_5, u158_7, u158_8, u158_12, u158_13, u158_14, u158_17, u158_18, u158_21, u158_22, u158_24, u158_25, u158_29, u158_30, u158_33, u158_36, u158_38, u158_40, u158_42, u158_45, u158_48, u158_50, u158_51, u158_52, u158_53, u158_56, u158_57, u158_58, u158_59, u158_61, u158_64, u158_67, u158_68, u158_70, u158_73, u158_74, u158_75, u158_78, u158_80, u158_81, u158_84, u158_85, u158_86, u158_87, u158_90, u158_92, u158_95, u158_96, u158_97, u158_99, u158_102, u158_105, u158_107, u158_108, u158_109, u158_110, u158_113, u158_114, u158_115, u158_117, u158_120, hfl, nI_le8, Nat.le_refl, if_true, hrun, pu_some, pu_none, hB8, hcx, true_and, q, lN_add, Nat.add_zero, nI_add]
    · simp (disch := omega) only [u158_0, u158_1, u158_4, u158_5, u158_7, u158_8, u158_12, u158_13, u158_14, u158_17, u158_18, u158_21, u158_22, u158_24, u158_25, u158_29, u158_30, u158_33, u158_36, u158_38, u158_40, u158_42, u158_45, u158_48, u158_50, u158_51, u158_52, u158_53, u158_56, u158_57, u158_58, u158_59, u158_61, u158_64, u158_67, u158_68, u158_70, u158_73, u158_74, u158_75, u158_78, u158_80, u158_81, u158_84, u158_85, u158_86, u158_87, u158_90, u158_92, u158_95, u158_96, u158_97, u158_99, u158_102, u158_105, u158_107, u158_108, u158_109, u158_110, u158_113, u158_114, u158_115, u158_117, u158_120, hfl, nI_le8, Nat.le_refl, if_true, if_false, hrun, pu_some, pu_none, hB8, hcx, true_and, q, lN_add, nI_add]) 0 (M, none, none, none) ⟨⟨x0, hM⟩, hK⟩
  have hfl := fl X hQ
  refine ⟨X, hKX, hQ, fun f Rt => ?_⟩
  have e := e (f, Rt)
  have hst : it (2 ^ fN N B) (fun a (s : Nat) => if RR N B (wA N B (nI a)) day 93 x = -1 then s else s + wgN (fN N B) c a) 0 = stN N B c x day (2 ^ fN N B) := rfl
  rw [hst] at e
  have hb := st_le (N := N) (B := B) (x := x) (day := day) hc (2 ^ fN N B)
  have h16 : 16 ^ fN N B ≤ 16 ^ 6 := Nat.pow_le_pow_right (by decide) h6
  have h16n : (16 : Nat) ^ 6 = 16777216 := by decide
  have hb2 : 2 ^ fN N B * 16 ^ fN N B ≤ 64 * 16777216 := Nat.mul_le_mul p64 (by omega)
  have h4 : 2 ^ (4 * fN N B) ≤ 2 ^ 24 := Nat.pow_le_pow_right (by decide) (by omega)
  have h4n : (2 : Nat) ^ 24 = 16777216 := by decide
  have h40 : 0 < 2 ^ (4 * fN N B) := Nat.pow_pos (by decide)
  have hlow := fun (f : Nat) Rt => s_low (S := S) (m := X) (f := f) (Rt := Rt) (v := v) (a := stN N B c x day (2 ^ fN N B)) (b := 2 ^ (4 * fN N B)) (by omega) h40 (by omega)
  refine Eq.trans ?_ (e.trans ?_)
  · simp only [u158_0, u158_1, u158_4, u158_5, u158_7, u158_8, Rd_e hR, pu_some, pu_none]
  · refine u158_10.trans ?_
    simp (disch := omega) only [u158_12, u158_13, u158_14, u158_17, u158_18, u158_105, u158_107, u158_108, u158_109, u158_110, u158_113, u158_114, u158_115, u158_117, u158_120, hfl, hs1, nI_le8, Nat.le_refl, if_true, nI_mul8, stormB_e h6, hlow, pu_some, pu_none]
    rfl
end MST
