/-- what a text is: signs of its shape, as numbers; 59 between the items -/
def sgn (t q : Nat) : Nat := ([[107, 102, 102, 104], [102, 110], [100, 102, 110, 102, 102]].getD t []).getD q 59
def stp (t : Nat) : Nat := [5, 3, 6].getD t 1
def tcap (t : Nat) : Nat := [39, 23, 35].getD t 0
def fitN (sg c : Nat) : Bool := if sg = 107 then c == 97 || c == 115 || c == 116 || c == 100 else if sg = 104 then Nat.ble 48 c && Nat.ble c 55 else if sg = 110 then Nat.ble 49 c && Nat.ble c 57 else if sg = 100 then Nat.ble 48 c && Nat.ble c 50 else if sg = 102 then Nat.ble 48 c && Nat.ble c 57 else c == 59
def kindN (c : Nat) : Nat := if c = 97 then 0 else if c = 115 then 1 else if c = 116 then 2 else 3
def okB (t : Nat) (b : Nat → Nat) (p : Nat) : Bool := fitN (sgn t (p % stp t)) (b p)
def ffL (ok : Nat → Bool) : Nat → Nat → Option Nat
  | 0, _ => none
  | r + 1, p => if ok p = true then ffL ok r (p + 1) else some p
/-- the fault of a text of n bytes -/
def ffN (t n : Nat) (b : Nat → Nat) : Option Nat := match ffL (okB t b) n 0 with
  | some p => some p
  | none => if n = 0 ∨ n % stp t = stp t - 1 then none else some n
def itemsN (t n : Nat) (b : Nat → Nat) : Nat := match ffN t n b with
  | some _ => 0
  | none => (n + 1) / stp t
/-- text t in the class: n bytes b -/
def Tx (t n : Nat) (b : Nat → Nat) (m : AMem) : Prop := m (2 + t) 2 = nI n ∧ n ≤ tcap t ∧ ∀ p, p < n → m (5 + t) p = nI (b p) ∧ b p < 256
section TEXT
variable {S : AScr} {f : Nat} {m : AMem} {Rt : Option Value → AMem → Prop}
theorem kindV_all : ∀ c, c < 256 → kindV (nI c) = if c = 97 then nI 0 else if c = 115 then nI 1 else if c = 116 then nI 2 else if c = 100 then nI 3 else -1 := by decide +kernel
theorem fit107 {c : Nat} (hc : c < 256) : (¬ kindV (nI c) = -1) = (fitN 107 c = true) := by
  rw [kindV_all c hc]
  unfold fitN
  simp only [if_true]
  have z : ∀ k : Nat, k < 4 → ¬ nI k = -1 := by decide
  apply propext
  by_cases h1 : c = 97
  · subst h1; simp; decide
  · by_cases h2 : c = 115
    · subst h2; simp; decide
    · by_cases h3 : c = 116
      · subst h3; simp; decide
      · by_cases h4 : c = 100
        · subst h4; simp; decide
        · simp [h1, h2, h3, h4]
theorem fit104 {c : Nat} (hc : c < 256) : (¬ nI c < nI 48 ∧ ¬ nI 55 < nI c) = (fitN 104 c = true) := by
  rw [nI_lt8 (by omega) (by omega), nI_lt8 (by omega) (by omega)]
  simp only [fitN, show ¬ (104 : Nat) = 107 by decide, if_false, show ¬ (104 : Nat) = 110 by decide, show ¬ (104 : Nat) = 100 by decide, show ¬ (104 : Nat) = 102 by decide, if_true, Bool.and_eq_true]
  apply propext
  constructor
  · intro h
    exact ⟨Nat.ble_eq.mpr (by omega), Nat.ble_eq.mpr (by omega)⟩
  · intro h
    have h1 := Nat.le_of_ble_eq_true h.1
    have h2 := Nat.le_of_ble_eq_true h.2
    omega
theorem fit110 {c : Nat} (hc : c < 256) : (¬ nI c < nI 49 ∧ ¬ nI 57 < nI c) = (fitN 110 c = true) := by
  rw [nI_lt8 (by omega) (by omega), nI_lt8 (by omega) (by omega)]
  simp only [fitN, show ¬ (110 : Nat) = 107 by decide, if_false, show ¬ (110 : Nat) = 104 by decide, show ¬ (110 : Nat) = 100 by decide, show ¬ (110 : Nat) = 102 by decide, if_true, Bool.and_eq_true]
  apply propext
  constructor
  · intro h
    exact ⟨Nat.ble_eq.mpr (by omega), Nat.ble_eq.mpr (by omega)⟩
  · intro h
    have h1 := Nat.le_of_ble_eq_true h.1
    have h2 := Nat.le_of_ble_eq_true h.2
    omega
theorem fit100 {c : Nat} (hc : c < 256) : (¬ nI c < nI 48 ∧ ¬ nI 50 < nI c) = (fitN 100 c = true) := by
  rw [nI_lt8 (by omega) (by omega), nI_lt8 (by omega) (by omega)]
  simp only [fitN, show ¬ (100 : Nat) = 107 by decide, if_false, show ¬ (100 : Nat) = 104 by decide, show ¬ (100 : Nat) = 110 by decide, show ¬ (100 : Nat) = 102 by decide, if_true, Bool.and_eq_true]
  apply propext
  constructor
  · intro h
    exact ⟨Nat.ble_eq.mpr (by omega), Nat.ble_eq.mpr (by omega)⟩
  · intro h
    have h1 := Nat.le_of_ble_eq_true h.1
    have h2 := Nat.le_of_ble_eq_true h.2
    omega
theorem fit102 {c : Nat} (hc : c < 256) : (¬ nI c < nI 48 ∧ ¬ nI 57 < nI c) = (fitN 102 c = true) := by
  rw [nI_lt8 (by omega) (by omega), nI_lt8 (by omega) (by omega)]
  simp only [fitN, show ¬ (102 : Nat) = 107 by decide, if_false, show ¬ (102 : Nat) = 104 by decide, show ¬ (102 : Nat) = 110 by decide, show ¬ (102 : Nat) = 100 by decide, if_true, Bool.and_eq_true]
  apply propext
  constructor
  · intro h
    exact ⟨Nat.ble_eq.mpr (by omega), Nat.ble_eq.mpr (by omega)⟩
  · intro h
    have h1 := Nat.le_of_ble_eq_true h.1
    have h2 := Nat.le_of_ble_eq_true h.2
    omega
theorem fit59 {c : Nat} (hc : c < 256) : (nI c = nI 59) = (fitN 59 c = true) := by
  rw [nI_eq8 (by omega) (by omega)]
  simp [fitN]
theorem nI_div8 {a d : Nat} (ha : a < 2147483648) (h0 : 0 < d) (hd : d < 2147483648) : nI a / nI d = nI (a / d) := pk_div ha h0 hd
theorem nI_rem8 {a d : Nat} (ha : a < 2147483648) (h0 : 0 < d) (hd : d < 2147483648) : nI a - nI a / nI d * nI d = nI (a % d) := pk_rem ha h0 hd
theorem ffL_le {ok : Nat → Bool} : ∀ (r p : Nat) {q : Nat}, ffL ok r p = some q → q < p + r := by
  intro r
  induction r with
  | zero => intro p q h; cases h
  | succ r ih =>
    intro p q h
    unfold ffL at h
    split at h
    · have := ih (p + 1) h
      omega
    · cases h
      omega
theorem ff_le {t n : Nat} {b : Nat → Nat} {p : Nat} (h : ffN t n b = some p) : p ≤ n := by
  unfold ffN at h
  cases hq : ffL (okB t b) n 0 with
  | some q =>
    rw [hq] at h
    cases h
    have := ffL_le n 0 hq
    omega
  | none =>
    rw [hq] at h
    simp only at h
    split at h
    · cases h
    · cases h
      exact Nat.le_refl _
theorem s_step0 : T S (f + 3) 18 0 [some (.ref 2)] [] m Rt = Rt (some (.int (nI 5))) m := by
  simp only [u18_0, u18_1, u18_1v1, u18_1v2, u18_4, u18_4v1, u18_4v2, u18_7, u18_8, u18_9, s_len0, pu_some, pu_none, show nI 4 + nI 1 = nI 5 by decide]
theorem s_ffL0 {n : Nat} {b : Nat → Nat} (h : Tx 0 n b m) : ∀ (r p : Nat) (l2 l3 : Option Value), p + r = n → T S (f + 8) 17 2 [some (.ref 2), some (.int (nI p)), l2, l3] [] m Rt = match ffL (okB 0 b) r p with
    | some p => Rt (some (.int (nI p))) m
    | none => Rt (some (.int (if n = 0 ∨ n % 5 = 4 then -1 else nI n))) m := by
  obtain ⟨h1, h2, h3⟩ := h
  have h2 : n ≤ 39 := h2
  simp only [Nat.reduceAdd] at h1 h3
  have d0 : ¬ nI 5 = 0 := by decide
  have dn : nI n - nI n / nI 5 * nI 5 = nI (n % 5) := nI_rem8 (by omega) (by decide) (by decide)
  intro r
  induction r with
  | zero =>
    intro p l2 l3 hp
    have hle : n ≤ p := by omega
    refine u17_2.trans ?_
    simp (disch := omega) only [u17_0, u17_1, u17_3, u17_4, u17_4v1, u17_4v2, u17_7, u17_10, u17_11, u17_12, u17_12v1, u17_12v2, u17_15, u17_15v1, u17_15v2, u17_16, u17_19, u17_20, u17_21, u17_21v1, u17_21v2, u17_24, u17_25, u17_26, u17_27, u17_28, u17_28v1, u17_28v2, u17_31, u17_31v1, u17_31v2, u17_34, u17_37, u17_38, u17_38v1, u17_38v2, u17_41, u17_42, u17_42v1, u17_42v2, u17_45, u17_46, u17_46v1, u17_46v2, u17_49, u17_50, u17_50v1, u17_50v2, u17_51, u17_54, u17_57, u17_58, u17_58v1, u17_58v2, u17_61, u17_62, u17_62v1, u17_62v2, u17_63, u17_65, u17_68, u17_69, u17_72, u17_73, u17_74, u17_75, u17_78, u17_79, u17_80, u17_83, u17_86, u17_87, u17_87v1, u17_87v2, u17_90, u17_93, u17_94, u17_94v1, u17_94v2, u17_97, u17_98, u17_98v1, u17_98v2, u17_101, u17_102, u17_103, u17_103v1, u17_103v2, u17_106, u17_106v1, u17_106v2, u17_109, u17_112, u17_113, u17_116, u17_117, u17_117v1, u17_117v2, u17_120, h1, nI_le8, hle, if_true, s_step0, s_len0, pu_some, pu_none, d0, not_false_iff, true_and, dn, nI_eq8]
    simp only [ffL]
    by_cases q1 : n = 0
    · simp [q1]
    · by_cases q2 : n % 5 = 4
      · simp [q1, q2]
      · simp [q1, q2]
  | succ r ih =>
    intro p l2 l3 hp
    have hlt : ¬ n ≤ p := by omega
    have hlc : ¬ 39 ≤ p := by omega
    obtain ⟨hb, hc⟩ := h3 p (by omega)
    have hB : inB (nI p) 39 = true := inB8 (by omega) (by decide)
    have dp : nI p - nI p / nI 5 * nI 5 = nI (p % 5) := nI_rem8 (by omega) (by decide) (by decide)
    have hq : p % 5 < 5 := Nat.mod_lt _ (by decide)
    have hok : okB 0 b p = fitN (sgn 0 (p % 5)) (b p) := rfl
    refine u17_2.trans ?_
    unfold ffL
    rcases (show p % 5 = 0 ∨ p % 5 = 1 ∨ p % 5 = 2 ∨ p % 5 = 3 ∨ p % 5 = 4 by omega) with hz | hz | hz | hz | hz
    · rw [hz] at dp hok
      have hok : okB 0 b p = fitN 107 (b p) := hok
      by_cases hf : fitN 107 (b p) = true
      · simp (disch := omega) only [u17_3, u17_4, u17_4v1, u17_4v2, u17_7, u17_10, u17_11, u17_12, u17_12v1, u17_12v2, u17_15, u17_15v1, u17_15v2, u17_16, u17_19, u17_20, u17_21, u17_21v1, u17_21v2, u17_24, u17_25, u17_26, u17_27, u17_28, u17_28v1, u17_28v2, u17_31, u17_31v1, u17_31v2, u17_34, u17_37, u17_38, u17_38v1, u17_38v2, u17_41, u17_42, u17_42v1, u17_42v2, u17_45, u17_46, u17_46v1, u17_46v2, u17_49, u17_50, u17_50v1, u17_50v2, u17_51, u17_54, u17_73, u17_74, u17_75, u17_78, u17_79, u17_80, u17_83, h1, nI_le8, hlt, hlc, if_false, s_step0, s_len0, pu_some, pu_none, d0, not_false_iff, true_and, dp, show ¬ nI 4 ≤ nI 0 by decide, s_ch0_0, hB, nI_cl8, hb, s_fit107 hc, b01_e0, fit107 hc, hf, not_true, hok, if_true, nI_add]
        exact ih (p + 1) _ _ (by omega)
      · simp (disch := omega) only [u17_3, u17_4, u17_4v1, u17_4v2, u17_7, u17_10, u17_11, u17_12, u17_12v1, u17_12v2, u17_15, u17_15v1, u17_15v2, u17_16, u17_19, u17_20, u17_21, u17_21v1, u17_21v2, u17_24, u17_25, u17_26, u17_27, u17_28, u17_28v1, u17_28v2, u17_31, u17_31v1, u17_31v2, u17_34, u17_37, u17_38, u17_38v1, u17_38v2, u17_41, u17_42, u17_42v1, u17_42v2, u17_45, u17_46, u17_46v1, u17_46v2, u17_49, u17_50, u17_50v1, u17_50v2, u17_51, u17_54, u17_73, u17_74, u17_75, u17_78, u17_79, u17_80, u17_83, h1, nI_le8, hlt, hlc, if_false, s_step0, s_len0, pu_some, pu_none, d0, not_false_iff, true_and, dp, show ¬ nI 4 ≤ nI 0 by decide, s_ch0_0, hB, nI_cl8, hb, s_fit107 hc, b01_e0, fit107 hc, hf, hok, if_true, Bool.false_eq_true, not_false_iff]
    · rw [hz] at dp hok
      have hok : okB 0 b p = fitN 102 (b p) := hok
      by_cases hf : fitN 102 (b p) = true
      · simp (disch := omega) only [u17_3, u17_4, u17_4v1, u17_4v2, u17_7, u17_10, u17_11, u17_12, u17_12v1, u17_12v2, u17_15, u17_15v1, u17_15v2, u17_16, u17_19, u17_20, u17_21, u17_21v1, u17_21v2, u17_24, u17_25, u17_26, u17_27, u17_28, u17_28v1, u17_28v2, u17_31, u17_31v1, u17_31v2, u17_34, u17_37, u17_38, u17_38v1, u17_38v2, u17_41, u17_42, u17_42v1, u17_42v2, u17_45, u17_46, u17_46v1, u17_46v2, u17_49, u17_50, u17_50v1, u17_50v2, u17_51, u17_54, u17_73, u17_74, u17_75, u17_78, u17_79, u17_80, u17_83, h1, nI_le8, hlt, hlc, if_false, s_step0, s_len0, pu_some, pu_none, d0, not_false_iff, true_and, dp, show ¬ nI 4 ≤ nI 1 by decide, s_ch0_1, hB, nI_cl8, hb, s_fit102 hc, b01_e0, fit102 hc, hf, not_true, hok, if_true, nI_add]
        exact ih (p + 1) _ _ (by omega)
      · simp (disch := omega) only [u17_3, u17_4, u17_4v1, u17_4v2, u17_7, u17_10, u17_11, u17_12, u17_12v1, u17_12v2, u17_15, u17_15v1, u17_15v2, u17_16, u17_19, u17_20, u17_21, u17_21v1, u17_21v2, u17_24, u17_25, u17_26, u17_27, u17_28, u17_28v1, u17_28v2, u17_31, u17_31v1, u17_31v2, u17_34, u17_37, u17_38, u17_38v1, u17_38v2, u17_41, u17_42, u17_42v1, u17_42v2, u17_45, u17_46, u17_46v1, u17_46v2, u17_49, u17_50, u17_50v1, u17_50v2, u17_51, u17_54, u17_73, u17_74, u17_75, u17_78, u17_79, u17_80, u17_83, h1, nI_le8, hlt, hlc, if_false, s_step0, s_len0, pu_some, pu_none, d0, not_false_iff, true_and, dp, show ¬ nI 4 ≤ nI 1 by decide, s_ch0_1, hB, nI_cl8, hb, s_fit102 hc, b01_e0, fit102 hc, hf, hok, if_true, Bool.false_eq_true, not_false_iff]
    · rw [hz] at dp hok
      have hok : okB 0 b p = fitN 102 (b p) := hok
      by_cases hf : fitN 102 (b p) = true
      · simp (disch := omega) only [u17_3, u17_4, u17_4v1, u17_4v2, u17_7, u17_10, u17_11, u17_12, u17_12v1, u17_12v2, u17_15, u17_15v1, u17_15v2, u17_16, u17_19, u17_20, u17_21, u17_21v1, u17_21v2, u17_24, u17_25, u17_26, u17_27, u17_28, u17_28v1, u17_28v2, u17_31, u17_31v1, u17_31v2, u17_34, u17_37, u17_38, u17_38v1, u17_38v2, u17_41, u17_42, u17_42v1, u17_42v2, u17_45, u17_46, u17_46v1, u17_46v2, u17_49, u17_50, u17_50v1, u17_50v2, u17_51, u17_54, u17_73, u17_74, u17_75, u17_78, u17_79, u17_80, u17_83, h1, nI_le8, hlt, hlc, if_false, s_step0, s_len0, pu_some, pu_none, d0, not_false_iff, true_and, dp, show ¬ nI 4 ≤ nI 2 by decide, s_ch0_2, hB, nI_cl8, hb, s_fit102 hc, b01_e0, fit102 hc, hf, not_true, hok, if_true, nI_add]
        exact ih (p + 1) _ _ (by omega)
      · simp (disch := omega) only [u17_3, u17_4, u17_4v1, u17_4v2, u17_7, u17_10, u17_11, u17_12, u17_12v1, u17_12v2, u17_15, u17_15v1, u17_15v2, u17_16, u17_19, u17_20, u17_21, u17_21v1, u17_21v2, u17_24, u17_25, u17_26, u17_27, u17_28, u17_28v1, u17_28v2, u17_31, u17_31v1, u17_31v2, u17_34, u17_37, u17_38, u17_38v1, u17_38v2, u17_41, u17_42, u17_42v1, u17_42v2, u17_45, u17_46, u17_46v1, u17_46v2, u17_49, u17_50, u17_50v1, u17_50v2, u17_51, u17_54, u17_73, u17_74, u17_75, u17_78, u17_79, u17_80, u17_83, h1, nI_le8, hlt, hlc, if_false, s_step0, s_len0, pu_some, pu_none, d0, not_false_iff, true_and, dp, show ¬ nI 4 ≤ nI 2 by decide, s_ch0_2, hB, nI_cl8, hb, s_fit102 hc, b01_e0, fit102 hc, hf, hok, if_true, Bool.false_eq_true, not_false_iff]
    · rw [hz] at dp hok
      have hok : okB 0 b p = fitN 104 (b p) := hok
      by_cases hf : fitN 104 (b p) = true
      · simp (disch := omega) only [u17_3, u17_4, u17_4v1, u17_4v2, u17_7, u17_10, u17_11, u17_12, u17_12v1, u17_12v2, u17_15, u17_15v1, u17_15v2, u17_16, u17_19, u17_20, u17_21, u17_21v1, u17_21v2, u17_24, u17_25, u17_26, u17_27, u17_28, u17_28v1, u17_28v2, u17_31, u17_31v1, u17_31v2, u17_34, u17_37, u17_38, u17_38v1, u17_38v2, u17_41, u17_42, u17_42v1, u17_42v2, u17_45, u17_46, u17_46v1, u17_46v2, u17_49, u17_50, u17_50v1, u17_50v2, u17_51, u17_54, u17_73, u17_74, u17_75, u17_78, u17_79, u17_80, u17_83, h1, nI_le8, hlt, hlc, if_false, s_step0, s_len0, pu_some, pu_none, d0, not_false_iff, true_and, dp, show ¬ nI 4 ≤ nI 3 by decide, s_ch0_3, hB, nI_cl8, hb, s_fit104 hc, b01_e0, fit104 hc, hf, not_true, hok, if_true, nI_add]
        exact ih (p + 1) _ _ (by omega)
      · simp (disch := omega) only [u17_3, u17_4, u17_4v1, u17_4v2, u17_7, u17_10, u17_11, u17_12, u17_12v1, u17_12v2, u17_15, u17_15v1, u17_15v2, u17_16, u17_19, u17_20, u17_21, u17_21v1, u17_21v2, u17_24, u17_25, u17_26, u17_27, u17_28, u17_28v1, u17_28v2, u17_31, u17_31v1, u17_31v2, u17_34, u17_37, u17_38, u17_38v1, u17_38v2, u17_41, u17_42, u17_42v1, u17_42v2, u17_45, u17_46, u17_46v1, u17_46v2, u17_49, u17_50, u17_50v1, u17_50v2, u17_51, u17_54, u17_73, u17_74, u17_75, u17_78, u17_79, u17_80, u17_83, h1, nI_le8, hlt, hlc, if_false, s_step0, s_len0, pu_some, pu_none, d0, not_false_iff, true_and, dp, show ¬ nI 4 ≤ nI 3 by decide, s_ch0_3, hB, nI_cl8, hb, s_fit104 hc, b01_e0, fit104 hc, hf, hok, if_true, Bool.false_eq_true, not_false_iff]
    · rw [hz] at dp hok
      have hok : okB 0 b p = fitN 59 (b p) := hok
      by_cases hf : fitN 59 (b p) = true
      · simp (disch := omega) only [u17_0, u17_1, u17_3, u17_4, u17_4v1, u17_4v2, u17_7, u17_10, u17_11, u17_12, u17_12v1, u17_12v2, u17_15, u17_15v1, u17_15v2, u17_16, u17_19, u17_20, u17_21, u17_21v1, u17_21v2, u17_24, u17_25, u17_26, u17_27, u17_28, u17_28v1, u17_28v2, u17_31, u17_31v1, u17_31v2, u17_34, u17_37, u17_38, u17_38v1, u17_38v2, u17_41, u17_42, u17_42v1, u17_42v2, u17_45, u17_46, u17_46v1, u17_46v2, u17_49, u17_50, u17_50v1, u17_50v2, u17_51, u17_54, u17_57, u17_58, u17_58v1, u17_58v2, u17_61, u17_62, u17_62v1, u17_62v2, u17_63, u17_65, u17_68, u17_69, u17_72, u17_73, u17_74, u17_75, u17_78, u17_79, u17_80, u17_83, u17_86, u17_87, u17_87v1, u17_87v2, u17_90, u17_93, u17_94, u17_94v1, u17_94v2, u17_97, u17_98, u17_98v1, u17_98v2, u17_101, u17_102, u17_103, u17_103v1, u17_103v2, u17_106, u17_106v1, u17_106v2, u17_109, u17_112, u17_113, u17_116, u17_117, u17_117v1, u17_117v2, u17_120, h1, nI_le8, hlt, hlc, if_false, s_step0, s_len0, pu_some, pu_none, d0, not_false_iff, true_and, dp, show nI 4 ≤ nI 4 by decide, if_true, hB, nI_cl8, hb, fit59 hc, hf, hok, show ¬ nI 1 = nI 0 by decide, nI_add]
        exact ih (p + 1) _ _ (by omega)
      · simp (disch := omega) only [u17_0, u17_1, u17_3, u17_4, u17_4v1, u17_4v2, u17_7, u17_10, u17_11, u17_12, u17_12v1, u17_12v2, u17_15, u17_15v1, u17_15v2, u17_16, u17_19, u17_20, u17_21, u17_21v1, u17_21v2, u17_24, u17_25, u17_26, u17_27, u17_28, u17_28v1, u17_28v2, u17_31, u17_31v1, u17_31v2, u17_34, u17_37, u17_38, u17_38v1, u17_38v2, u17_41, u17_42, u17_42v1, u17_42v2, u17_45, u17_46, u17_46v1, u17_46v2, u17_49, u17_50, u17_50v1, u17_50v2, u17_51, u17_54, u17_57, u17_58, u17_58v1, u17_58v2, u17_61, u17_62, u17_62v1, u17_62v2, u17_63, u17_65, u17_68, u17_69, u17_72, u17_73, u17_74, u17_75, u17_78, u17_79, u17_80, u17_83, u17_86, u17_87, u17_87v1, u17_87v2, u17_90, u17_93, u17_94, u17_94v1, u17_94v2, u17_97, u17_98, u17_98v1, u17_98v2, u17_101, u17_102, u17_103, u17_103v1, u17_103v2, u17_106, u17_106v1, u17_106v2, u17_109, u17_112, u17_113, u17_116, u17_117, u17_117v1, u17_117v2, u17_120, h1, nI_le8, hlt, hlc, if_false, s_step0, s_len0, pu_some, pu_none, d0, not_false_iff, true_and, dp, show nI 4 ≤ nI 4 by decide, if_true, hB, nI_cl8, hb, fit59 hc, hf, hok, Bool.false_eq_true, if_false]
theorem s_ff0 {n : Nat} {b : Nat → Nat} (h : Tx 0 n b m) : T S (f + 8) 17 0 [some (.ref 2), none, none, none] [] m Rt = Rt (some (.int (optI (ffN 0 n b)))) m := by
  rw [u17_0, u17_1, s_ffL0 h n 0 none none (by omega)]
  unfold ffN
  cases ffL (okB 0 b) n 0 with
  | some p => rfl
  | none =>
    show Rt (some (.int (if n = 0 ∨ n % 5 = 4 then -1 else nI n))) m = Rt (some (.int (optI (if n = 0 ∨ n % 5 = 4 then none else some n)))) m
    split <;> rfl
theorem s_items0 {n : Nat} {b : Nat → Nat} (h : Tx 0 n b m) : T S (f + 9) 16 0 [some (.ref 2)] [] m Rt = Rt (some (.int (nI (itemsN 0 n b)))) m := by
  have h1 : m 2 2 = nI n := h.1
  have h2 : n ≤ 39 := h.2.1
  have d0 : ¬ nI 5 = 0 := by decide
  have dn : nI (n + 1) / nI 5 = nI ((n + 1) / 5) := nI_div8 (by omega) (by decide) (by decide)
  unfold itemsN
  cases hq : ffN 0 n b with
  | none =>
    simp only [u16_0, u16_1, u16_1v1, u16_1v2, u16_4, u16_5, u16_8, u16_9, u16_9v1, u16_9v2, u16_12, u16_13, u16_14, u16_15, u16_15v1, u16_15v2, u16_18, u16_19, u16_22, u16_23, s_ff0 h, pu_some, pu_none, hq, optI_none, if_true, h1, s_step0, d0, not_false_iff, true_and, nI_add, dn]
    rfl
  | some p =>
    have hp : p ≤ 39 := by
      have := ff_le hq
      omega
    simp (disch := omega) only [u16_0, u16_1, u16_1v1, u16_1v2, u16_4, u16_5, u16_8, u16_9, u16_9v1, u16_9v2, u16_12, u16_13, u16_14, u16_15, u16_15v1, u16_15v2, u16_18, u16_19, u16_22, u16_23, s_ff0 h, pu_some, pu_none, hq, optI_some, nI_ne1, if_false]
theorem s_byteOf0 {n i q : Nat} {b : Nat → Nat} (h : Tx 0 n b m) (hp : i * 5 + q < n) (hq : q < 5) (hi : i < 40) : T S (f + 4) 21 0 [some (.ref 2), some (.int (nI i)), some (.int (nI q)), none] [] m Rt = Rt (some (.int (nI (b (i * 5 + q))))) m := by
  have h1 : m 2 2 = nI n := h.1
  have h2 : n ≤ 39 := h.2.1
  obtain ⟨hb, hc⟩ := h.2.2 _ hp
  have hb : m 5 (i * 5 + q) = nI (b (i * 5 + q)) := hb
  have e1 : nI i * nI 5 = nI (i * 5) := nI_mul8 _ _
  have h0 : ¬ nI (i * 5 + q) < nI 0 := fun z => nI_pos (n := i * 5 + q) (by omega) z
  have g1 : ¬ n ≤ i * 5 + q := by omega
  have g2 : ¬ 39 ≤ i * 5 + q := by omega
  have hB : inB (nI (i * 5 + q)) 39 = true := inB8 (by omega) (by decide)
  have e3 : (narrow .char (.int (nI (b (i * 5 + q)))) = .int (nI (b (i * 5 + q)))) = True := eq_true (pk_charN (by omega)).1
  simp (disch := omega) only [u21_0, u21_1, u21_2, u21_2v1, u21_2v2, u21_5, u21_6, u21_7, u21_8, u21_9, u21_10, u21_13, u21_14, u21_15, u21_15v1, u21_15v2, u21_18, u21_21, u21_22, u21_23, u21_23v1, u21_23v2, u21_26, u21_26v1, u21_26v2, u21_27, u21_30, u21_31, u21_31v1, u21_31v2, u21_34, u21_35, u21_35v1, u21_35v2, u21_36, u21_39, u21_41, s_step0, pu_some, pu_none, e1, nI_add, h0, if_false, h1, nI_le8, g1, g2, hB, nI_cl8, hb, true_and, e3]
theorem s_figure0 {n i q : Nat} {b : Nat → Nat} (h : Tx 0 n b m) (hp : i * 5 + q < n) (hq : q < 5) (hi : i < 40) : T S (f + 5) 22 0 [some (.ref 2), some (.int (nI i)), some (.int (nI q))] [] m Rt = Rt (some (.int (nI (b (i * 5 + q)) - nI 48))) m := by
  simp only [u22_0, u22_1, u22_2, u22_3, u22_3v1, u22_3v2, u22_6, u22_8, u22_9, s_byteOf0 h hp hq hi, pu_some, pu_none]
theorem s_step1 : T S (f + 3) 18 0 [some (.ref 3)] [] m Rt = Rt (some (.int (nI 3))) m := by
  simp only [u18_0, u18_1, u18_1v1, u18_1v2, u18_4, u18_4v1, u18_4v2, u18_7, u18_8, u18_9, s_len1, pu_some, pu_none, show nI 2 + nI 1 = nI 3 by decide]
theorem s_ffL1 {n : Nat} {b : Nat → Nat} (h : Tx 1 n b m) : ∀ (r p : Nat) (l2 l3 : Option Value), p + r = n → T S (f + 8) 17 2 [some (.ref 3), some (.int (nI p)), l2, l3] [] m Rt = match ffL (okB 1 b) r p with
    | some p => Rt (some (.int (nI p))) m
    | none => Rt (some (.int (if n = 0 ∨ n % 3 = 2 then -1 else nI n))) m := by
  obtain ⟨h1, h2, h3⟩ := h
  have h2 : n ≤ 23 := h2
  simp only [Nat.reduceAdd] at h1 h3
  have d0 : ¬ nI 3 = 0 := by decide
  have dn : nI n - nI n / nI 3 * nI 3 = nI (n % 3) := nI_rem8 (by omega) (by decide) (by decide)
  intro r
  induction r with
  | zero =>
    intro p l2 l3 hp
    have hle : n ≤ p := by omega
    refine u17_2.trans ?_
    simp (disch := omega) only [u17_0, u17_1, u17_3, u17_4, u17_4v1, u17_4v2, u17_7, u17_10, u17_11, u17_12, u17_12v1, u17_12v2, u17_15, u17_15v1, u17_15v2, u17_16, u17_19, u17_20, u17_21, u17_21v1, u17_21v2, u17_24, u17_25, u17_26, u17_27, u17_28, u17_28v1, u17_28v2, u17_31, u17_31v1, u17_31v2, u17_34, u17_37, u17_38, u17_38v1, u17_38v2, u17_41, u17_42, u17_42v1, u17_42v2, u17_45, u17_46, u17_46v1, u17_46v2, u17_49, u17_50, u17_50v1, u17_50v2, u17_51, u17_54, u17_57, u17_58, u17_58v1, u17_58v2, u17_61, u17_62, u17_62v1, u17_62v2, u17_63, u17_65, u17_68, u17_69, u17_72, u17_73, u17_74, u17_75, u17_78, u17_79, u17_80, u17_83, u17_86, u17_87, u17_87v1, u17_87v2, u17_90, u17_93, u17_94, u17_94v1, u17_94v2, u17_97, u17_98, u17_98v1, u17_98v2, u17_101, u17_102, u17_103, u17_103v1, u17_103v2, u17_106, u17_106v1, u17_106v2, u17_109, u17_112, u17_113, u17_116, u17_117, u17_117v1, u17_117v2, u17_120, h1, nI_le8, hle, if_true, s_step1, s_len1, pu_some, pu_none, d0, not_false_iff, true_and, dn, nI_eq8]
    simp only [ffL]
    by_cases q1 : n = 0
    · simp [q1]
    · by_cases q2 : n % 3 = 2
      · simp [q1, q2]
      · simp [q1, q2]
  | succ r ih =>
    intro p l2 l3 hp
    have hlt : ¬ n ≤ p := by omega
    have hlc : ¬ 23 ≤ p := by omega
    obtain ⟨hb, hc⟩ := h3 p (by omega)
    have hB : inB (nI p) 23 = true := inB8 (by omega) (by decide)
    have dp : nI p - nI p / nI 3 * nI 3 = nI (p % 3) := nI_rem8 (by omega) (by decide) (by decide)
    have hq : p % 3 < 3 := Nat.mod_lt _ (by decide)
    have hok : okB 1 b p = fitN (sgn 1 (p % 3)) (b p) := rfl
    refine u17_2.trans ?_
    unfold ffL
    rcases (show p % 3 = 0 ∨ p % 3 = 1 ∨ p % 3 = 2 by omega) with hz | hz | hz
    · rw [hz] at dp hok
      have hok : okB 1 b p = fitN 102 (b p) := hok
      by_cases hf : fitN 102 (b p) = true
      · simp (disch := omega) only [u17_3, u17_4, u17_4v1, u17_4v2, u17_7, u17_10, u17_11, u17_12, u17_12v1, u17_12v2, u17_15, u17_15v1, u17_15v2, u17_16, u17_19, u17_20, u17_21, u17_21v1, u17_21v2, u17_24, u17_25, u17_26, u17_27, u17_28, u17_28v1, u17_28v2, u17_31, u17_31v1, u17_31v2, u17_34, u17_37, u17_38, u17_38v1, u17_38v2, u17_41, u17_42, u17_42v1, u17_42v2, u17_45, u17_46, u17_46v1, u17_46v2, u17_49, u17_50, u17_50v1, u17_50v2, u17_51, u17_54, u17_73, u17_74, u17_75, u17_78, u17_79, u17_80, u17_83, h1, nI_le8, hlt, hlc, if_false, s_step1, s_len1, pu_some, pu_none, d0, not_false_iff, true_and, dp, show ¬ nI 2 ≤ nI 0 by decide, s_ch1_0, hB, nI_cl8, hb, s_fit102 hc, b01_e0, fit102 hc, hf, not_true, hok, if_true, nI_add]
        exact ih (p + 1) _ _ (by omega)
      · simp (disch := omega) only [u17_3, u17_4, u17_4v1, u17_4v2, u17_7, u17_10, u17_11, u17_12, u17_12v1, u17_12v2, u17_15, u17_15v1, u17_15v2, u17_16, u17_19, u17_20, u17_21, u17_21v1, u17_21v2, u17_24, u17_25, u17_26, u17_27, u17_28, u17_28v1, u17_28v2, u17_31, u17_31v1, u17_31v2, u17_34, u17_37, u17_38, u17_38v1, u17_38v2, u17_41, u17_42, u17_42v1, u17_42v2, u17_45, u17_46, u17_46v1, u17_46v2, u17_49, u17_50, u17_50v1, u17_50v2, u17_51, u17_54, u17_73, u17_74, u17_75, u17_78, u17_79, u17_80, u17_83, h1, nI_le8, hlt, hlc, if_false, s_step1, s_len1, pu_some, pu_none, d0, not_false_iff, true_and, dp, show ¬ nI 2 ≤ nI 0 by decide, s_ch1_0, hB, nI_cl8, hb, s_fit102 hc, b01_e0, fit102 hc, hf, hok, if_true, Bool.false_eq_true, not_false_iff]
    · rw [hz] at dp hok
      have hok : okB 1 b p = fitN 110 (b p) := hok
      by_cases hf : fitN 110 (b p) = true
      · simp (disch := omega) only [u17_3, u17_4, u17_4v1, u17_4v2, u17_7, u17_10, u17_11, u17_12, u17_12v1, u17_12v2, u17_15, u17_15v1, u17_15v2, u17_16, u17_19, u17_20, u17_21, u17_21v1, u17_21v2, u17_24, u17_25, u17_26, u17_27, u17_28, u17_28v1, u17_28v2, u17_31, u17_31v1, u17_31v2, u17_34, u17_37, u17_38, u17_38v1, u17_38v2, u17_41, u17_42, u17_42v1, u17_42v2, u17_45, u17_46, u17_46v1, u17_46v2, u17_49, u17_50, u17_50v1, u17_50v2, u17_51, u17_54, u17_73, u17_74, u17_75, u17_78, u17_79, u17_80, u17_83, h1, nI_le8, hlt, hlc, if_false, s_step1, s_len1, pu_some, pu_none, d0, not_false_iff, true_and, dp, show ¬ nI 2 ≤ nI 1 by decide, s_ch1_1, hB, nI_cl8, hb, s_fit110 hc, b01_e0, fit110 hc, hf, not_true, hok, if_true, nI_add]
        exact ih (p + 1) _ _ (by omega)
      · simp (disch := omega) only [u17_3, u17_4, u17_4v1, u17_4v2, u17_7, u17_10, u17_11, u17_12, u17_12v1, u17_12v2, u17_15, u17_15v1, u17_15v2, u17_16, u17_19, u17_20, u17_21, u17_21v1, u17_21v2, u17_24, u17_25, u17_26, u17_27, u17_28, u17_28v1, u17_28v2, u17_31, u17_31v1, u17_31v2, u17_34, u17_37, u17_38, u17_38v1, u17_38v2, u17_41, u17_42, u17_42v1, u17_42v2, u17_45, u17_46, u17_46v1, u17_46v2, u17_49, u17_50, u17_50v1, u17_50v2, u17_51, u17_54, u17_73, u17_74, u17_75, u17_78, u17_79, u17_80, u17_83, h1, nI_le8, hlt, hlc, if_false, s_step1, s_len1, pu_some, pu_none, d0, not_false_iff, true_and, dp, show ¬ nI 2 ≤ nI 1 by decide, s_ch1_1, hB, nI_cl8, hb, s_fit110 hc, b01_e0, fit110 hc, hf, hok, if_true, Bool.false_eq_true, not_false_iff]
    · rw [hz] at dp hok
      have hok : okB 1 b p = fitN 59 (b p) := hok
      by_cases hf : fitN 59 (b p) = true
      · simp (disch := omega) only [u17_0, u17_1, u17_3, u17_4, u17_4v1, u17_4v2, u17_7, u17_10, u17_11, u17_12, u17_12v1, u17_12v2, u17_15, u17_15v1, u17_15v2, u17_16, u17_19, u17_20, u17_21, u17_21v1, u17_21v2, u17_24, u17_25, u17_26, u17_27, u17_28, u17_28v1, u17_28v2, u17_31, u17_31v1, u17_31v2, u17_34, u17_37, u17_38, u17_38v1, u17_38v2, u17_41, u17_42, u17_42v1, u17_42v2, u17_45, u17_46, u17_46v1, u17_46v2, u17_49, u17_50, u17_50v1, u17_50v2, u17_51, u17_54, u17_57, u17_58, u17_58v1, u17_58v2, u17_61, u17_62, u17_62v1, u17_62v2, u17_63, u17_65, u17_68, u17_69, u17_72, u17_73, u17_74, u17_75, u17_78, u17_79, u17_80, u17_83, u17_86, u17_87, u17_87v1, u17_87v2, u17_90, u17_93, u17_94, u17_94v1, u17_94v2, u17_97, u17_98, u17_98v1, u17_98v2, u17_101, u17_102, u17_103, u17_103v1, u17_103v2, u17_106, u17_106v1, u17_106v2, u17_109, u17_112, u17_113, u17_116, u17_117, u17_117v1, u17_117v2, u17_120, h1, nI_le8, hlt, hlc, if_false, s_step1, s_len1, pu_some, pu_none, d0, not_false_iff, true_and, dp, show nI 2 ≤ nI 2 by decide, if_true, hB, nI_cl8, hb, fit59 hc, hf, hok, show ¬ nI 1 = nI 0 by decide, nI_add]
        exact ih (p + 1) _ _ (by omega)
      · simp (disch := omega) only [u17_0, u17_1, u17_3, u17_4, u17_4v1, u17_4v2, u17_7, u17_10, u17_11, u17_12, u17_12v1, u17_12v2, u17_15, u17_15v1, u17_15v2, u17_16, u17_19, u17_20, u17_21, u17_21v1, u17_21v2, u17_24, u17_25, u17_26, u17_27, u17_28, u17_28v1, u17_28v2, u17_31, u17_31v1, u17_31v2, u17_34, u17_37, u17_38, u17_38v1, u17_38v2, u17_41, u17_42, u17_42v1, u17_42v2, u17_45, u17_46, u17_46v1, u17_46v2, u17_49, u17_50, u17_50v1, u17_50v2, u17_51, u17_54, u17_57, u17_58, u17_58v1, u17_58v2, u17_61, u17_62, u17_62v1, u17_62v2, u17_63, u17_65, u17_68, u17_69, u17_72, u17_73, u17_74, u17_75, u17_78, u17_79, u17_80, u17_83, u17_86, u17_87, u17_87v1, u17_87v2, u17_90, u17_93, u17_94, u17_94v1, u17_94v2, u17_97, u17_98, u17_98v1, u17_98v2, u17_101, u17_102, u17_103, u17_103v1, u17_103v2, u17_106, u17_106v1, u17_106v2, u17_109, u17_112, u17_113, u17_116, u17_117, u17_117v1, u17_117v2, u17_120, h1, nI_le8, hlt, hlc, if_false, s_step1, s_len1, pu_some, pu_none, d0, not_false_iff, true_and, dp, show nI 2 ≤ nI 2 by decide, if_true, hB, nI_cl8, hb, fit59 hc, hf, hok, Bool.false_eq_true, if_false]
theorem s_ff1 {n : Nat} {b : Nat → Nat} (h : Tx 1 n b m) : T S (f + 8) 17 0 [some (.ref 3), none, none, none] [] m Rt = Rt (some (.int (optI (ffN 1 n b)))) m := by
  rw [u17_0, u17_1, s_ffL1 h n 0 none none (by omega)]
  unfold ffN
  cases ffL (okB 1 b) n 0 with
  | some p => rfl
  | none =>
    show Rt (some (.int (if n = 0 ∨ n % 3 = 2 then -1 else nI n))) m = Rt (some (.int (optI (if n = 0 ∨ n % 3 = 2 then none else some n)))) m
    split <;> rfl
theorem s_items1 {n : Nat} {b : Nat → Nat} (h : Tx 1 n b m) : T S (f + 9) 16 0 [some (.ref 3)] [] m Rt = Rt (some (.int (nI (itemsN 1 n b)))) m := by
  have h1 : m 3 2 = nI n := h.1
  have h2 : n ≤ 23 := h.2.1
  have d0 : ¬ nI 3 = 0 := by decide
  have dn : nI (n + 1) / nI 3 = nI ((n + 1) / 3) := nI_div8 (by omega) (by decide) (by decide)
  unfold itemsN
  cases hq : ffN 1 n b with
  | none =>
    simp only [u16_0, u16_1, u16_1v1, u16_1v2, u16_4, u16_5, u16_8, u16_9, u16_9v1, u16_9v2, u16_12, u16_13, u16_14, u16_15, u16_15v1, u16_15v2, u16_18, u16_19, u16_22, u16_23, s_ff1 h, pu_some, pu_none, hq, optI_none, if_true, h1, s_step1, d0, not_false_iff, true_and, nI_add, dn]
    rfl
  | some p =>
    have hp : p ≤ 39 := by
      have := ff_le hq
      omega
    simp (disch := omega) only [u16_0, u16_1, u16_1v1, u16_1v2, u16_4, u16_5, u16_8, u16_9, u16_9v1, u16_9v2, u16_12, u16_13, u16_14, u16_15, u16_15v1, u16_15v2, u16_18, u16_19, u16_22, u16_23, s_ff1 h, pu_some, pu_none, hq, optI_some, nI_ne1, if_false]
theorem s_byteOf1 {n i q : Nat} {b : Nat → Nat} (h : Tx 1 n b m) (hp : i * 3 + q < n) (hq : q < 3) (hi : i < 40) : T S (f + 4) 21 0 [some (.ref 3), some (.int (nI i)), some (.int (nI q)), none] [] m Rt = Rt (some (.int (nI (b (i * 3 + q))))) m := by
  have h1 : m 3 2 = nI n := h.1
  have h2 : n ≤ 23 := h.2.1
  obtain ⟨hb, hc⟩ := h.2.2 _ hp
  have hb : m 6 (i * 3 + q) = nI (b (i * 3 + q)) := hb
  have e1 : nI i * nI 3 = nI (i * 3) := nI_mul8 _ _
  have h0 : ¬ nI (i * 3 + q) < nI 0 := fun z => nI_pos (n := i * 3 + q) (by omega) z
  have g1 : ¬ n ≤ i * 3 + q := by omega
  have g2 : ¬ 23 ≤ i * 3 + q := by omega
  have hB : inB (nI (i * 3 + q)) 23 = true := inB8 (by omega) (by decide)
  have e3 : (narrow .char (.int (nI (b (i * 3 + q)))) = .int (nI (b (i * 3 + q)))) = True := eq_true (pk_charN (by omega)).1
  simp (disch := omega) only [u21_0, u21_1, u21_2, u21_2v1, u21_2v2, u21_5, u21_6, u21_7, u21_8, u21_9, u21_10, u21_13, u21_14, u21_15, u21_15v1, u21_15v2, u21_18, u21_21, u21_22, u21_23, u21_23v1, u21_23v2, u21_26, u21_26v1, u21_26v2, u21_27, u21_30, u21_31, u21_31v1, u21_31v2, u21_34, u21_35, u21_35v1, u21_35v2, u21_36, u21_39, u21_41, s_step1, pu_some, pu_none, e1, nI_add, h0, if_false, h1, nI_le8, g1, g2, hB, nI_cl8, hb, true_and, e3]
theorem s_figure1 {n i q : Nat} {b : Nat → Nat} (h : Tx 1 n b m) (hp : i * 3 + q < n) (hq : q < 3) (hi : i < 40) : T S (f + 5) 22 0 [some (.ref 3), some (.int (nI i)), some (.int (nI q))] [] m Rt = Rt (some (.int (nI (b (i * 3 + q)) - nI 48))) m := by
  simp only [u22_0, u22_1, u22_2, u22_3, u22_3v1, u22_3v2, u22_6, u22_8, u22_9, s_byteOf1 h hp hq hi, pu_some, pu_none]
theorem s_step2 : T S (f + 3) 18 0 [some (.ref 4)] [] m Rt = Rt (some (.int (nI 6))) m := by
  simp only [u18_0, u18_1, u18_1v1, u18_1v2, u18_4, u18_4v1, u18_4v2, u18_7, u18_8, u18_9, s_len2, pu_some, pu_none, show nI 5 + nI 1 = nI 6 by decide]
theorem s_ffL2 {n : Nat} {b : Nat → Nat} (h : Tx 2 n b m) : ∀ (r p : Nat) (l2 l3 : Option Value), p + r = n → T S (f + 8) 17 2 [some (.ref 4), some (.int (nI p)), l2, l3] [] m Rt = match ffL (okB 2 b) r p with
    | some p => Rt (some (.int (nI p))) m
    | none => Rt (some (.int (if n = 0 ∨ n % 6 = 5 then -1 else nI n))) m := by
  obtain ⟨h1, h2, h3⟩ := h
  have h2 : n ≤ 35 := h2
  simp only [Nat.reduceAdd] at h1 h3
  have d0 : ¬ nI 6 = 0 := by decide
  have dn : nI n - nI n / nI 6 * nI 6 = nI (n % 6) := nI_rem8 (by omega) (by decide) (by decide)
  intro r
  induction r with
  | zero =>
    intro p l2 l3 hp
    have hle : n ≤ p := by omega
    refine u17_2.trans ?_
    simp (disch := omega) only [u17_0, u17_1, u17_3, u17_4, u17_4v1, u17_4v2, u17_7, u17_10, u17_11, u17_12, u17_12v1, u17_12v2, u17_15, u17_15v1, u17_15v2, u17_16, u17_19, u17_20, u17_21, u17_21v1, u17_21v2, u17_24, u17_25, u17_26, u17_27, u17_28, u17_28v1, u17_28v2, u17_31, u17_31v1, u17_31v2, u17_34, u17_37, u17_38, u17_38v1, u17_38v2, u17_41, u17_42, u17_42v1, u17_42v2, u17_45, u17_46, u17_46v1, u17_46v2, u17_49, u17_50, u17_50v1, u17_50v2, u17_51, u17_54, u17_57, u17_58, u17_58v1, u17_58v2, u17_61, u17_62, u17_62v1, u17_62v2, u17_63, u17_65, u17_68, u17_69, u17_72, u17_73, u17_74, u17_75, u17_78, u17_79, u17_80, u17_83, u17_86, u17_87, u17_87v1, u17_87v2, u17_90, u17_93, u17_94, u17_94v1, u17_94v2, u17_97, u17_98, u17_98v1, u17_98v2, u17_101, u17_102, u17_103, u17_103v1, u17_103v2, u17_106, u17_106v1, u17_106v2, u17_109, u17_112, u17_113, u17_116, u17_117, u17_117v1, u17_117v2, u17_120, h1, nI_le8, hle, if_true, s_step2, s_len2, pu_some, pu_none, d0, not_false_iff, true_and, dn, nI_eq8]
    simp only [ffL]
    by_cases q1 : n = 0
    · simp [q1]
    · by_cases q2 : n % 6 = 5
      · simp [q1, q2]
      · simp [q1, q2]
  | succ r ih =>
    intro p l2 l3 hp
    have hlt : ¬ n ≤ p := by omega
    have hlc : ¬ 35 ≤ p := by omega
    obtain ⟨hb, hc⟩ := h3 p (by omega)
    have hB : inB (nI p) 35 = true := inB8 (by omega) (by decide)
    have dp : nI p - nI p / nI 6 * nI 6 = nI (p % 6) := nI_rem8 (by omega) (by decide) (by decide)
    have hq : p % 6 < 6 := Nat.mod_lt _ (by decide)
    have hok : okB 2 b p = fitN (sgn 2 (p % 6)) (b p) := rfl
    refine u17_2.trans ?_
    unfold ffL
    rcases (show p % 6 = 0 ∨ p % 6 = 1 ∨ p % 6 = 2 ∨ p % 6 = 3 ∨ p % 6 = 4 ∨ p % 6 = 5 by omega) with hz | hz | hz | hz | hz | hz
    · rw [hz] at dp hok
      have hok : okB 2 b p = fitN 100 (b p) := hok
      by_cases hf : fitN 100 (b p) = true
      · simp (disch := omega) only [u17_3, u17_4, u17_4v1, u17_4v2, u17_7, u17_10, u17_11, u17_12, u17_12v1, u17_12v2, u17_15, u17_15v1, u17_15v2, u17_16, u17_19, u17_20, u17_21, u17_21v1, u17_21v2, u17_24, u17_25, u17_26, u17_27, u17_28, u17_28v1, u17_28v2, u17_31, u17_31v1, u17_31v2, u17_34, u17_37, u17_38, u17_38v1, u17_38v2, u17_41, u17_42, u17_42v1, u17_42v2, u17_45, u17_46, u17_46v1, u17_46v2, u17_49, u17_50, u17_50v1, u17_50v2, u17_51, u17_54, u17_73, u17_74, u17_75, u17_78, u17_79, u17_80, u17_83, h1, nI_le8, hlt, hlc, if_false, s_step2, s_len2, pu_some, pu_none, d0, not_false_iff, true_and, dp, show ¬ nI 5 ≤ nI 0 by decide, s_ch2_0, hB, nI_cl8, hb, s_fit100 hc, b01_e0, fit100 hc, hf, not_true, hok, if_true, nI_add]
        exact ih (p + 1) _ _ (by omega)
      · simp (disch := omega) only [u17_3, u17_4, u17_4v1, u17_4v2, u17_7, u17_10, u17_11, u17_12, u17_12v1, u17_12v2, u17_15, u17_15v1, u17_15v2, u17_16, u17_19, u17_20, u17_21, u17_21v1, u17_21v2, u17_24, u17_25, u17_26, u17_27, u17_28, u17_28v1, u17_28v2, u17_31, u17_31v1, u17_31v2, u17_34, u17_37, u17_38, u17_38v1, u17_38v2, u17_41, u17_42, u17_42v1, u17_42v2, u17_45, u17_46, u17_46v1, u17_46v2, u17_49, u17_50, u17_50v1, u17_50v2, u17_51, u17_54, u17_73, u17_74, u17_75, u17_78, u17_79, u17_80, u17_83, h1, nI_le8, hlt, hlc, if_false, s_step2, s_len2, pu_some, pu_none, d0, not_false_iff, true_and, dp, show ¬ nI 5 ≤ nI 0 by decide, s_ch2_0, hB, nI_cl8, hb, s_fit100 hc, b01_e0, fit100 hc, hf, hok, if_true, Bool.false_eq_true, not_false_iff]
    · rw [hz] at dp hok
      have hok : okB 2 b p = fitN 102 (b p) := hok
      by_cases hf : fitN 102 (b p) = true
      · simp (disch := omega) only [u17_3, u17_4, u17_4v1, u17_4v2, u17_7, u17_10, u17_11, u17_12, u17_12v1, u17_12v2, u17_15, u17_15v1, u17_15v2, u17_16, u17_19, u17_20, u17_21, u17_21v1, u17_21v2, u17_24, u17_25, u17_26, u17_27, u17_28, u17_28v1, u17_28v2, u17_31, u17_31v1, u17_31v2, u17_34, u17_37, u17_38, u17_38v1, u17_38v2, u17_41, u17_42, u17_42v1, u17_42v2, u17_45, u17_46, u17_46v1, u17_46v2, u17_49, u17_50, u17_50v1, u17_50v2, u17_51, u17_54, u17_73, u17_74, u17_75, u17_78, u17_79, u17_80, u17_83, h1, nI_le8, hlt, hlc, if_false, s_step2, s_len2, pu_some, pu_none, d0, not_false_iff, true_and, dp, show ¬ nI 5 ≤ nI 1 by decide, s_ch2_1, hB, nI_cl8, hb, s_fit102 hc, b01_e0, fit102 hc, hf, not_true, hok, if_true, nI_add]
        exact ih (p + 1) _ _ (by omega)
      · simp (disch := omega) only [u17_3, u17_4, u17_4v1, u17_4v2, u17_7, u17_10, u17_11, u17_12, u17_12v1, u17_12v2, u17_15, u17_15v1, u17_15v2, u17_16, u17_19, u17_20, u17_21, u17_21v1, u17_21v2, u17_24, u17_25, u17_26, u17_27, u17_28, u17_28v1, u17_28v2, u17_31, u17_31v1, u17_31v2, u17_34, u17_37, u17_38, u17_38v1, u17_38v2, u17_41, u17_42, u17_42v1, u17_42v2, u17_45, u17_46, u17_46v1, u17_46v2, u17_49, u17_50, u17_50v1, u17_50v2, u17_51, u17_54, u17_73, u17_74, u17_75, u17_78, u17_79, u17_80, u17_83, h1, nI_le8, hlt, hlc, if_false, s_step2, s_len2, pu_some, pu_none, d0, not_false_iff, true_and, dp, show ¬ nI 5 ≤ nI 1 by decide, s_ch2_1, hB, nI_cl8, hb, s_fit102 hc, b01_e0, fit102 hc, hf, hok, if_true, Bool.false_eq_true, not_false_iff]
    · rw [hz] at dp hok
      have hok : okB 2 b p = fitN 110 (b p) := hok
      by_cases hf : fitN 110 (b p) = true
      · simp (disch := omega) only [u17_3, u17_4, u17_4v1, u17_4v2, u17_7, u17_10, u17_11, u17_12, u17_12v1, u17_12v2, u17_15, u17_15v1, u17_15v2, u17_16, u17_19, u17_20, u17_21, u17_21v1, u17_21v2, u17_24, u17_25, u17_26, u17_27, u17_28, u17_28v1, u17_28v2, u17_31, u17_31v1, u17_31v2, u17_34, u17_37, u17_38, u17_38v1, u17_38v2, u17_41, u17_42, u17_42v1, u17_42v2, u17_45, u17_46, u17_46v1, u17_46v2, u17_49, u17_50, u17_50v1, u17_50v2, u17_51, u17_54, u17_73, u17_74, u17_75, u17_78, u17_79, u17_80, u17_83, h1, nI_le8, hlt, hlc, if_false, s_step2, s_len2, pu_some, pu_none, d0, not_false_iff, true_and, dp, show ¬ nI 5 ≤ nI 2 by decide, s_ch2_2, hB, nI_cl8, hb, s_fit110 hc, b01_e0, fit110 hc, hf, not_true, hok, if_true, nI_add]
        exact ih (p + 1) _ _ (by omega)
      · simp (disch := omega) only [u17_3, u17_4, u17_4v1, u17_4v2, u17_7, u17_10, u17_11, u17_12, u17_12v1, u17_12v2, u17_15, u17_15v1, u17_15v2, u17_16, u17_19, u17_20, u17_21, u17_21v1, u17_21v2, u17_24, u17_25, u17_26, u17_27, u17_28, u17_28v1, u17_28v2, u17_31, u17_31v1, u17_31v2, u17_34, u17_37, u17_38, u17_38v1, u17_38v2, u17_41, u17_42, u17_42v1, u17_42v2, u17_45, u17_46, u17_46v1, u17_46v2, u17_49, u17_50, u17_50v1, u17_50v2, u17_51, u17_54, u17_73, u17_74, u17_75, u17_78, u17_79, u17_80, u17_83, h1, nI_le8, hlt, hlc, if_false, s_step2, s_len2, pu_some, pu_none, d0, not_false_iff, true_and, dp, show ¬ nI 5 ≤ nI 2 by decide, s_ch2_2, hB, nI_cl8, hb, s_fit110 hc, b01_e0, fit110 hc, hf, hok, if_true, Bool.false_eq_true, not_false_iff]
    · rw [hz] at dp hok
      have hok : okB 2 b p = fitN 102 (b p) := hok
      by_cases hf : fitN 102 (b p) = true
      · simp (disch := omega) only [u17_3, u17_4, u17_4v1, u17_4v2, u17_7, u17_10, u17_11, u17_12, u17_12v1, u17_12v2, u17_15, u17_15v1, u17_15v2, u17_16, u17_19, u17_20, u17_21, u17_21v1, u17_21v2, u17_24, u17_25, u17_26, u17_27, u17_28, u17_28v1, u17_28v2, u17_31, u17_31v1, u17_31v2, u17_34, u17_37, u17_38, u17_38v1, u17_38v2, u17_41, u17_42, u17_42v1, u17_42v2, u17_45, u17_46, u17_46v1, u17_46v2, u17_49, u17_50, u17_50v1, u17_50v2, u17_51, u17_54, u17_73, u17_74, u17_75, u17_78, u17_79, u17_80, u17_83, h1, nI_le8, hlt, hlc, if_false, s_step2, s_len2, pu_some, pu_none, d0, not_false_iff, true_and, dp, show ¬ nI 5 ≤ nI 3 by decide, s_ch2_3, hB, nI_cl8, hb, s_fit102 hc, b01_e0, fit102 hc, hf, not_true, hok, if_true, nI_add]
        exact ih (p + 1) _ _ (by omega)
      · simp (disch := omega) only [u17_3, u17_4, u17_4v1, u17_4v2, u17_7, u17_10, u17_11, u17_12, u17_12v1, u17_12v2, u17_15, u17_15v1, u17_15v2, u17_16, u17_19, u17_20, u17_21, u17_21v1, u17_21v2, u17_24, u17_25, u17_26, u17_27, u17_28, u17_28v1, u17_28v2, u17_31, u17_31v1, u17_31v2, u17_34, u17_37, u17_38, u17_38v1, u17_38v2, u17_41, u17_42, u17_42v1, u17_42v2, u17_45, u17_46, u17_46v1, u17_46v2, u17_49, u17_50, u17_50v1, u17_50v2, u17_51, u17_54, u17_73, u17_74, u17_75, u17_78, u17_79, u17_80, u17_83, h1, nI_le8, hlt, hlc, if_false, s_step2, s_len2, pu_some, pu_none, d0, not_false_iff, true_and, dp, show ¬ nI 5 ≤ nI 3 by decide, s_ch2_3, hB, nI_cl8, hb, s_fit102 hc, b01_e0, fit102 hc, hf, hok, if_true, Bool.false_eq_true, not_false_iff]
    · rw [hz] at dp hok
      have hok : okB 2 b p = fitN 102 (b p) := hok
      by_cases hf : fitN 102 (b p) = true
      · simp (disch := omega) only [u17_3, u17_4, u17_4v1, u17_4v2, u17_7, u17_10, u17_11, u17_12, u17_12v1, u17_12v2, u17_15, u17_15v1, u17_15v2, u17_16, u17_19, u17_20, u17_21, u17_21v1, u17_21v2, u17_24, u17_25, u17_26, u17_27, u17_28, u17_28v1, u17_28v2, u17_31, u17_31v1, u17_31v2, u17_34, u17_37, u17_38, u17_38v1, u17_38v2, u17_41, u17_42, u17_42v1, u17_42v2, u17_45, u17_46, u17_46v1, u17_46v2, u17_49, u17_50, u17_50v1, u17_50v2, u17_51, u17_54, u17_73, u17_74, u17_75, u17_78, u17_79, u17_80, u17_83, h1, nI_le8, hlt, hlc, if_false, s_step2, s_len2, pu_some, pu_none, d0, not_false_iff, true_and, dp, show ¬ nI 5 ≤ nI 4 by decide, s_ch2_4, hB, nI_cl8, hb, s_fit102 hc, b01_e0, fit102 hc, hf, not_true, hok, if_true, nI_add]
        exact ih (p + 1) _ _ (by omega)
      · simp (disch := omega) only [u17_3, u17_4, u17_4v1, u17_4v2, u17_7, u17_10, u17_11, u17_12, u17_12v1, u17_12v2, u17_15, u17_15v1, u17_15v2, u17_16, u17_19, u17_20, u17_21, u17_21v1, u17_21v2, u17_24, u17_25, u17_26, u17_27, u17_28, u17_28v1, u17_28v2, u17_31, u17_31v1, u17_31v2, u17_34, u17_37, u17_38, u17_38v1, u17_38v2, u17_41, u17_42, u17_42v1, u17_42v2, u17_45, u17_46, u17_46v1, u17_46v2, u17_49, u17_50, u17_50v1, u17_50v2, u17_51, u17_54, u17_73, u17_74, u17_75, u17_78, u17_79, u17_80, u17_83, h1, nI_le8, hlt, hlc, if_false, s_step2, s_len2, pu_some, pu_none, d0, not_false_iff, true_and, dp, show ¬ nI 5 ≤ nI 4 by decide, s_ch2_4, hB, nI_cl8, hb, s_fit102 hc, b01_e0, fit102 hc, hf, hok, if_true, Bool.false_eq_true, not_false_iff]
    · rw [hz] at dp hok
      have hok : okB 2 b p = fitN 59 (b p) := hok
      by_cases hf : fitN 59 (b p) = true
      · simp (disch := omega) only [u17_0, u17_1, u17_3, u17_4, u17_4v1, u17_4v2, u17_7, u17_10, u17_11, u17_12, u17_12v1, u17_12v2, u17_15, u17_15v1, u17_15v2, u17_16, u17_19, u17_20, u17_21, u17_21v1, u17_21v2, u17_24, u17_25, u17_26, u17_27, u17_28, u17_28v1, u17_28v2, u17_31, u17_31v1, u17_31v2, u17_34, u17_37, u17_38, u17_38v1, u17_38v2, u17_41, u17_42, u17_42v1, u17_42v2, u17_45, u17_46, u17_46v1, u17_46v2, u17_49, u17_50, u17_50v1, u17_50v2, u17_51, u17_54, u17_57, u17_58, u17_58v1, u17_58v2, u17_61, u17_62, u17_62v1, u17_62v2, u17_63, u17_65, u17_68, u17_69, u17_72, u17_73, u17_74, u17_75, u17_78, u17_79, u17_80, u17_83, u17_86, u17_87, u17_87v1, u17_87v2, u17_90, u17_93, u17_94, u17_94v1, u17_94v2, u17_97, u17_98, u17_98v1, u17_98v2, u17_101, u17_102, u17_103, u17_103v1, u17_103v2, u17_106, u17_106v1, u17_106v2, u17_109, u17_112, u17_113, u17_116, u17_117, u17_117v1, u17_117v2, u17_120, h1, nI_le8, hlt, hlc, if_false, s_step2, s_len2, pu_some, pu_none, d0, not_false_iff, true_and, dp, show nI 5 ≤ nI 5 by decide, if_true, hB, nI_cl8, hb, fit59 hc, hf, hok, show ¬ nI 1 = nI 0 by decide, nI_add]
        exact ih (p + 1) _ _ (by omega)
      · simp (disch := omega) only [u17_0, u17_1, u17_3, u17_4, u17_4v1, u17_4v2, u17_7, u17_10, u17_11, u17_12, u17_12v1, u17_12v2, u17_15, u17_15v1, u17_15v2, u17_16, u17_19, u17_20, u17_21, u17_21v1, u17_21v2, u17_24, u17_25, u17_26, u17_27, u17_28, u17_28v1, u17_28v2, u17_31, u17_31v1, u17_31v2, u17_34, u17_37, u17_38, u17_38v1, u17_38v2, u17_41, u17_42, u17_42v1, u17_42v2, u17_45, u17_46, u17_46v1, u17_46v2, u17_49, u17_50, u17_50v1, u17_50v2, u17_51, u17_54, u17_57, u17_58, u17_58v1, u17_58v2, u17_61, u17_62, u17_62v1, u17_62v2, u17_63, u17_65, u17_68, u17_69, u17_72, u17_73, u17_74, u17_75, u17_78, u17_79, u17_80, u17_83, u17_86, u17_87, u17_87v1, u17_87v2, u17_90, u17_93, u17_94, u17_94v1, u17_94v2, u17_97, u17_98, u17_98v1, u17_98v2, u17_101, u17_102, u17_103, u17_103v1, u17_103v2, u17_106, u17_106v1, u17_106v2, u17_109, u17_112, u17_113, u17_116, u17_117, u17_117v1, u17_117v2, u17_120, h1, nI_le8, hlt, hlc, if_false, s_step2, s_len2, pu_some, pu_none, d0, not_false_iff, true_and, dp, show nI 5 ≤ nI 5 by decide, if_true, hB, nI_cl8, hb, fit59 hc, hf, hok, Bool.false_eq_true, if_false]
theorem s_ff2 {n : Nat} {b : Nat → Nat} (h : Tx 2 n b m) : T S (f + 8) 17 0 [some (.ref 4), none, none, none] [] m Rt = Rt (some (.int (optI (ffN 2 n b)))) m := by
  rw [u17_0, u17_1, s_ffL2 h n 0 none none (by omega)]
  unfold ffN
  cases ffL (okB 2 b) n 0 with
  | some p => rfl
  | none =>
    show Rt (some (.int (if n = 0 ∨ n % 6 = 5 then -1 else nI n))) m = Rt (some (.int (optI (if n = 0 ∨ n % 6 = 5 then none else some n)))) m
    split <;> rfl
theorem s_items2 {n : Nat} {b : Nat → Nat} (h : Tx 2 n b m) : T S (f + 9) 16 0 [some (.ref 4)] [] m Rt = Rt (some (.int (nI (itemsN 2 n b)))) m := by
  have h1 : m 4 2 = nI n := h.1
  have h2 : n ≤ 35 := h.2.1
  have d0 : ¬ nI 6 = 0 := by decide
  have dn : nI (n + 1) / nI 6 = nI ((n + 1) / 6) := nI_div8 (by omega) (by decide) (by decide)
  unfold itemsN
  cases hq : ffN 2 n b with
  | none =>
    simp only [u16_0, u16_1, u16_1v1, u16_1v2, u16_4, u16_5, u16_8, u16_9, u16_9v1, u16_9v2, u16_12, u16_13, u16_14, u16_15, u16_15v1, u16_15v2, u16_18, u16_19, u16_22, u16_23, s_ff2 h, pu_some, pu_none, hq, optI_none, if_true, h1, s_step2, d0, not_false_iff, true_and, nI_add, dn]
    rfl
  | some p =>
    have hp : p ≤ 39 := by
      have := ff_le hq
      omega
    simp (disch := omega) only [u16_0, u16_1, u16_1v1, u16_1v2, u16_4, u16_5, u16_8, u16_9, u16_9v1, u16_9v2, u16_12, u16_13, u16_14, u16_15, u16_15v1, u16_15v2, u16_18, u16_19, u16_22, u16_23, s_ff2 h, pu_some, pu_none, hq, optI_some, nI_ne1, if_false]
theorem s_byteOf2 {n i q : Nat} {b : Nat → Nat} (h : Tx 2 n b m) (hp : i * 6 + q < n) (hq : q < 6) (hi : i < 40) : T S (f + 4) 21 0 [some (.ref 4), some (.int (nI i)), some (.int (nI q)), none] [] m Rt = Rt (some (.int (nI (b (i * 6 + q))))) m := by
  have h1 : m 4 2 = nI n := h.1
  have h2 : n ≤ 35 := h.2.1
  obtain ⟨hb, hc⟩ := h.2.2 _ hp
  have hb : m 7 (i * 6 + q) = nI (b (i * 6 + q)) := hb
  have e1 : nI i * nI 6 = nI (i * 6) := nI_mul8 _ _
  have h0 : ¬ nI (i * 6 + q) < nI 0 := fun z => nI_pos (n := i * 6 + q) (by omega) z
  have g1 : ¬ n ≤ i * 6 + q := by omega
  have g2 : ¬ 35 ≤ i * 6 + q := by omega
  have hB : inB (nI (i * 6 + q)) 35 = true := inB8 (by omega) (by decide)
  have e3 : (narrow .char (.int (nI (b (i * 6 + q)))) = .int (nI (b (i * 6 + q)))) = True := eq_true (pk_charN (by omega)).1
  simp (disch := omega) only [u21_0, u21_1, u21_2, u21_2v1, u21_2v2, u21_5, u21_6, u21_7, u21_8, u21_9, u21_10, u21_13, u21_14, u21_15, u21_15v1, u21_15v2, u21_18, u21_21, u21_22, u21_23, u21_23v1, u21_23v2, u21_26, u21_26v1, u21_26v2, u21_27, u21_30, u21_31, u21_31v1, u21_31v2, u21_34, u21_35, u21_35v1, u21_35v2, u21_36, u21_39, u21_41, s_step2, pu_some, pu_none, e1, nI_add, h0, if_false, h1, nI_le8, g1, g2, hB, nI_cl8, hb, true_and, e3]
theorem s_figure2 {n i q : Nat} {b : Nat → Nat} (h : Tx 2 n b m) (hp : i * 6 + q < n) (hq : q < 6) (hi : i < 40) : T S (f + 5) 22 0 [some (.ref 4), some (.int (nI i)), some (.int (nI q))] [] m Rt = Rt (some (.int (nI (b (i * 6 + q)) - nI 48))) m := by
  simp only [u22_0, u22_1, u22_2, u22_3, u22_3v1, u22_3v2, u22_6, u22_8, u22_9, s_byteOf2 h hp hq hi, pu_some, pu_none]
end TEXT
