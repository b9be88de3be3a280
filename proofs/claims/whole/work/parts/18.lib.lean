/-! small facts for the runs -/
theorem fa2_lt (a b : Int32) : a < b ↔ a.toInt < b.toInt := Int32.lt_iff_toInt_lt
theorem fa2_le (a b : Int32) : a ≤ b ↔ a.toInt ≤ b.toInt := Int32.le_iff_toInt_le
theorem fa2_eq (a b : Int32) : a = b ↔ a.toInt = b.toInt := Int32.toInt_inj.symm
theorem b01_e0 (p : Prop) [Decidable p] : (b01 p = nI 0) = ¬ p := by
  unfold b01
  by_cases h : p
  · simp [h]; decide
  · simp [h]
theorem b01_t {p : Prop} [Decidable p] (h : p) : b01 p = nI 1 := if_pos h
theorem b01_f {p : Prop} [Decidable p] (h : ¬ p) : b01 p = nI 0 := if_neg h
theorem nar_b01 (p : Prop) [Decidable p] : (narrow .boolean (.int (b01 p)) = .int (b01 p)) = True := by
  unfold b01
  by_cases h : p
  · simp [h]; decide
  · simp [h]; decide
theorem nar_z0 : (narrow .boolean (.int (nI 0)) = .int (nI 0)) = True := by simp; decide
theorem nar_z1 : (narrow .boolean (.int (nI 1)) = .int (nI 1)) = True := by simp; decide
theorem inB_nI {k n : Nat} (hk : k < n) (hn : n < 2 ^ 31) : (inB (nI k) n = true) = True := by
  unfold inB
  rw [nI_clamp (by omega)]
  simp [nI_pos' (show k < 2 ^ 31 by omega), hk]
theorem nI_cl {k : Nat} (hk : k < 2 ^ 31) : (nI k).toNatClampNeg = k := nI_clamp hk
theorem up_ap (m : AMem) (k j : Nat) (v : Int32) (k2 j2 : Nat) : up m k j v k2 j2 = if k2 = k ∧ j2 = j then v else m k2 j2 := rfl
theorem upA_ap (m : AMem) (k : Nat) (g : Nat → Int32) (k2 j2 : Nat) : upA m k g k2 j2 = if k2 = k then g j2 else m k2 j2 := rfl
theorem nI_lt0 {k : Nat} (h : k < 2 ^ 31) : (nI k < nI 0) = False := by simp [nI_nlt (Nat.zero_le k) h]
theorem nI_lt' {a b : Nat} (ha : a < 2 ^ 31) (hb : b < 2 ^ 31) : (nI a < nI b) = (a < b) := propext (nI_ltI ha hb)
theorem nI_le' {a b : Nat} (ha : a < 2 ^ 31) (hb : b < 2 ^ 31) : (nI a ≤ nI b) = (a ≤ b) := propext (nI_leI ha hb)
theorem nI_eq' {a b : Nat} (ha : a < 2 ^ 31) (hb : b < 2 ^ 31) : (nI a = nI b) = (a = b) := propext (nI_eq ha hb)
theorem nI_toI {k : Nat} (h : k < 2 ^ 31) : (nI k).toInt = (k : Int) := nI_toInt h
theorem le_n (a b : Int32) : (a ≤ b) = ¬ (b < a) := propext Int32.not_lt.symm
theorem nI_lt8 {a b : Nat} (ha : a < 2147483648) (hb : b < 2147483648) : (nI a < nI b) = (a < b) := nI_lt' ha hb
theorem nI_le8 {a b : Nat} (ha : a < 2147483648) (hb : b < 2147483648) : (nI a ≤ nI b) = (a ≤ b) := nI_le' ha hb
theorem nI_eq8 {a b : Nat} (ha : a < 2147483648) (hb : b < 2147483648) : (nI a = nI b) = (a = b) := nI_eq' ha hb
theorem nI_cl8 {a : Nat} (ha : a < 2147483648) : (nI a).toNatClampNeg = a := nI_clamp ha
theorem inB8 {k n : Nat} (hk : k < n) (hn : n < 2147483648) : inB (nI k) n = true := of_eq_true (inB_nI hk hn)
theorem inB_P {x : Int32} {n : Nat} (h : nI 0 ≤ x ∧ x < nI n) (hn : n < 2147483648) : inB x n = true := by
  obtain ⟨h1, h2⟩ := h
  obtain ⟨j, hj, rfl⟩ := nI_of (Int32.not_lt.mpr h1)
  exact inB8 ((nI_ltI hj hn).mp h2) hn
theorem P_nI {x : Int32} {n : Nat} (h : nI 0 ≤ x ∧ x < nI n) (hn : n < 2147483648) : ∃ j, j < n ∧ x = nI j := by
  obtain ⟨h1, h2⟩ := h
  obtain ⟨j, hj, rfl⟩ := nI_of (Int32.not_lt.mpr h1)
  exact ⟨j, (nI_ltI hj hn).mp h2, rfl⟩
theorem nI_P {j n : Nat} (h : j < n) (hn : n < 2147483648) : nI 0 ≤ nI j ∧ nI j < nI n := ⟨nI_le (Nat.zero_le j) (by omega), nI_lt h hn⟩
def optI : Option Nat → Int32
  | none => -1
  | some k => nI k
theorem optI_none : optI none = -1 := rfl
theorem optI_some (k : Nat) : optI (some k) = nI k := rfl
theorem nI_ne1 {k : Nat} (h : k < 2147483648) : (nI k = -1) = False := by
  have h1 := nI_toInt (n := k) (by omega)
  refine eq_false (fun e => ?_)
  rw [e] at h1
  have : ((-1 : Int32)).toInt = -1 := by decide
  omega
/-- a loop that counts up -/
def it {α : Type} : Nat → (Nat → α → α) → α → α
  | 0, _, m => m
  | n + 1, F, m => F n (it n F m)
theorem it_0 {α : Type} (F : Nat → α → α) (m : α) : it 0 F m = m := rfl
theorem it_s {α : Type} (n : Nat) (F : Nat → α → α) (m : α) : it (n + 1) F m = F n (it n F m) := rfl
theorem it_I {α : Type} (F : Nat → α → α) (P : Nat → α → Prop) (n : Nat) (hP : ∀ k, k < n → ∀ s, P k s → P (k + 1) (F k s)) (s : α) (h0 : P 0 s) : ∀ j, j ≤ n → P j (it j F s) := by
  intro j
  induction j with
  | zero => intro _; exact h0
  | succ j ih => intro hj; exact hP j (by omega) _ (ih (by omega))
theorem it_run {α : Type} {β : Sort _} (G : Nat → α → β) (F : Nat → α → α) (P : Nat → α → Prop) (n : Nat) (hP : ∀ k, k < n → ∀ s, P k s → P (k + 1) (F k s)) (h : ∀ k, k < n → ∀ s, P k s → G k s = G (k + 1) (F k s)) (s : α) (h0 : P 0 s) : G 0 s = G n (it n F s) := by
  have key : ∀ j, j ≤ n → G 0 s = G j (it j F s) := by
    intro j
    induction j with
    | zero => intro _; rfl
    | succ j ih =>
      intro hj
      rw [ih (by omega), h j (by omega) _ (it_I F P n hP s h0 j (by omega))]
      rfl
  exact key n (Nat.le_refl n)
theorem it_congr {α : Type} {F F2 : Nat → α → α} {n : Nat} (h : ∀ k, k < n → ∀ s, F k s = F2 k s) (s : α) : it n F s = it n F2 s := by
  induction n with
  | zero => rfl
  | succ n ih =>
    rw [it_s, it_s, ih (fun k hk => h k (by omega)), h n (by omega)]
/-- the same, with places of which nothing is asked -/
theorem it_runL {α γ : Type} {β : Sort _} (G : Nat → α → γ → β) (F : Nat → α → α) (P : Nat → α → Prop) (n : Nat) (hP : ∀ k, k < n → ∀ s, P k s → P (k + 1) (F k s)) (h : ∀ k, k < n → ∀ s l, P k s → ∃ l2, G k s l = G (k + 1) (F k s) l2) (s : α) (l : γ) (h0 : P 0 s) : ∃ l2, G 0 s l = G n (it n F s) l2 := by
  have key : ∀ j, j ≤ n → ∃ l2, G 0 s l = G j (it j F s) l2 := by
    intro j
    induction j with
    | zero => intro _; exact ⟨l, rfl⟩
    | succ j ih =>
      intro hj
      obtain ⟨l2, e⟩ := ih (by omega)
      obtain ⟨l3, e3⟩ := h j (by omega) _ l2 (it_I F P n hP s h0 j (by omega))
      exact ⟨l3, e.trans e3⟩
  exact key n (Nat.le_refl n)
