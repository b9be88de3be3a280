section PARSE
variable {m : AMem} {t n : Nat} {b : Nat → Nat}
theorem ffL_to {ok : Nat → Bool} : ∀ (r p q : Nat), p ≤ q → q ≤ p + r → (∀ i, p ≤ i → i < q → ok i = true) → ffL ok r p = ffL ok (p + r - q) q := by
  intro r
  induction r with
  | zero =>
    intro p q h1 h2 _
    have : p = q := by omega
    subst this
    rw [show p + 0 - p = 0 by omega]
  | succ r ih =>
    intro p q h1 h2 h3
    by_cases z : p = q
    · subst z
      rw [show p + (r + 1) - p = r + 1 by omega]
    · show (if ok p = true then ffL ok r (p + 1) else some p) = _
      rw [if_pos (h3 p (Nat.le_refl _) (by omega)), ih (p + 1) q (by omega) (by omega) (fun i a1 a2 => h3 i (by omega) a2), show p + 1 + r = p + (r + 1) by omega]
theorem ffL_hit {ok : Nat → Bool} {r p : Nat} (hr : 0 < r) (h : ok p = false) : ffL ok r p = some p := by
  cases r with
  | zero => omega
  | succ r =>
    show (if ok p = true then ffL ok r (p + 1) else some p) = some p
    rw [if_neg (by rw [h]; decide)]
theorem ffL_all {ok : Nat → Bool} : ∀ (r p : Nat), ffL ok r p = none → ∀ i, p ≤ i → i < p + r → ok i = true := by
  intro r
  induction r with
  | zero => intro p _ i h1 h2; omega
  | succ r ih =>
    intro p h i h1 h2
    unfold ffL at h
    split at h
    · rename_i hp
      by_cases z : i = p
      · rw [z]; exact hp
      · exact ih (p + 1) h i (by omega) (by omega)
    · cases h
theorem fig_all : ∀ c, c < 256 → ∀ lo, lo < 2 → ∀ hi, hi < 10 → ((nI lo ≤ nI c - nI 48 ∧ nI c - nI 48 ≤ nI hi) ↔ (48 + lo ≤ c ∧ c ≤ 48 + hi)) := by decide +kernel
theorem fig_no : ∀ lo, lo < 2 → ¬ nI lo ≤ -1 - nI 48 := by decide
theorem fig_e {p lo hi : Nat} (hb : p < n → b p < 256) (hlo : lo < 2) (hhi : hi < 10) : figV n b p lo hi = if p < n ∧ 48 + lo ≤ b p ∧ b p ≤ 48 + hi then nI (b p - 48) else -1 := by
  unfold figV byV
  by_cases q : p < n
  · simp only [if_pos q]
    have h := fig_all (b p) (hb q) lo hlo hi hhi
    by_cases z : 48 + lo ≤ b p ∧ b p ≤ 48 + hi
    · rw [if_pos (h.mpr z), if_pos ⟨q, z⟩, nI_sub (by omega)]
    · rw [if_neg (fun y => z (h.mp y)), if_neg (fun y => z y.2)]
  · simp only [if_neg q]
    rw [if_neg (fun y => fig_no lo hlo y.1), if_neg (fun y => q y.1)]
theorem kind_all : ∀ c, c < 256 → kindI (nI c) = if fitN 107 c = true then nI (kindN c) else -1 := by decide +kernel
theorem kind_all2 : ∀ c, c < 256 → fitN 107 c = true → kindV (nI c) = nI (kindN c) ∧ kindN c < 4 := by decide +kernel
theorem kind_no : kindI (-1) = -1 := by decide
theorem kind_e {p : Nat} (hb : p < n → b p < 256) : kindI (byV n b p) = if p < n ∧ fitN 107 (b p) = true then nI (kindN (b p)) else -1 := by
  unfold byV
  by_cases q : p < n
  · rw [if_pos q, kind_all _ (hb q)]
    by_cases z : fitN 107 (b p) = true
    · rw [if_pos z, if_pos ⟨q, z⟩]
    · rw [if_neg z, if_neg (fun y => z y.2)]
  · rw [if_neg q, if_neg (fun y => q y.1), kind_no]
theorem fit_102 {c : Nat} : (fitN 102 c = true) = (48 + 0 ≤ c ∧ c ≤ 48 + 9) := by simp [fitN]
theorem fit_104 {c : Nat} : (fitN 104 c = true) = (48 + 0 ≤ c ∧ c ≤ 48 + 7) := by simp [fitN]
theorem fit_110 {c : Nat} : (fitN 110 c = true) = (48 + 1 ≤ c ∧ c ≤ 48 + 9) := by simp [fitN]
theorem fit_100 {c : Nat} : (fitN 100 c = true) = (48 + 0 ≤ c ∧ c ≤ 48 + 2) := by simp [fitN]
theorem if_m1 {c : Prop} [Decidable c] {k : Nat} (hk : k < 2147483648) : ((if c then nI k else -1) = -1) = ¬ c := by
  by_cases h : c
  · rw [if_pos h, nI_ne1 hk]; simp [h]
  · rw [if_neg h]; simp [h]
theorem goV0 {p : Nat} : goV 0 n b p = manV n b p := by unfold goV; rw [if_pos rfl]
theorem goV1 {p : Nat} : goV 1 n b p = innV n b p := by unfold goV; rw [if_neg (by decide), if_pos rfl]
theorem goV2 {p : Nat} : goV 2 n b p = shpV n b p := by unfold goV; rw [if_neg (by decide), if_neg (by decide)]
theorem goW0 {k p : Nat} : goW 0 n b k p m = manW n b k p m := by unfold goW; rw [if_pos rfl]
theorem goW1 {k p : Nat} : goW 1 n b k p m = innW n b k p m := by unfold goW; rw [if_neg (by decide), if_pos rfl]
theorem goW2 {k p : Nat} : goW 2 n b k p m = shpW n b k p m := by unfold goW; rw [if_neg (by decide), if_neg (by decide)]
/-- is sign j of the item at p there, and good -/
def Gd (t n : Nat) (b : Nat → Nat) (p j : Nat) : Prop := p + j < n ∧ fitN (sgn t j) (b (p + j)) = true
theorem kindN_lt {c : Nat} : kindN c < 2147483648 := by unfold kindN; repeat (first | split | omega)
theorem go_spec (ht : t ≤ 2) {p : Nat} (hb : ∀ i, i < n → b i < 256) : (∀ j, j < goV t n b p → Gd t n b p j) ∧ (goV t n b p < szN t → ¬ Gd t n b p (goV t n b p)) ∧ goV t n b p ≤ szN t := by
  have fe : ∀ (q lo hi : Nat), lo < 2 → hi < 10 → (figV n b q lo hi = -1) = ¬ (q < n ∧ 48 + lo ≤ b q ∧ b q ≤ 48 + hi) := fun q lo hi h1 h2 => by
    rw [fig_e (hb q) h1 h2]
    by_cases q1 : q < n
    · have := hb q q1
      exact if_m1 (by omega)
    · rw [if_neg (fun y => q1 y.1)]
      simp [q1]
  match t, ht with
  | 0, _ =>
    have g0 : Gd 0 n b p 0 = (p < n ∧ fitN 107 (b p) = true) := rfl
    have g1 : Gd 0 n b p 1 = (p + 1 < n ∧ fitN 102 (b (p + 1)) = true) := rfl
    have g2 : Gd 0 n b p 2 = (p + 2 < n ∧ fitN 102 (b (p + 2)) = true) := rfl
    have g3 : Gd 0 n b p 3 = (p + 3 < n ∧ fitN 104 (b (p + 3)) = true) := rfl
    have e0 : (kindI (byV n b p) = -1) = ¬ Gd 0 n b p 0 := by rw [kind_e (hb p), g0]; exact if_m1 kindN_lt
    have e1 : (figV n b (p + 1) 0 9 = -1) = ¬ Gd 0 n b p 1 := by rw [fe _ _ _ (by decide) (by decide), g1, fit_102]
    have e2 : (figV n b (p + 2) 0 9 = -1) = ¬ Gd 0 n b p 2 := by rw [fe _ _ _ (by decide) (by decide), g2, fit_102]
    have e3 : (figV n b (p + 3) 0 7 = -1) = ¬ Gd 0 n b p 3 := by rw [fe _ _ _ (by decide) (by decide), g3, fit_104]
    have s4 : szN 0 = 4 := by decide
    rw [goV0, s4]
    unfold manV
    by_cases q0 : kindI (byV n b p) = -1
    · rw [if_pos q0]
      exact ⟨fun j hj => by omega, fun _ => e0 ▸ q0, by omega⟩
    rw [if_neg q0]
    have r0 : Gd 0 n b p 0 := Classical.byContradiction fun z => q0 (e0.symm ▸ z)
    by_cases q1 : figV n b (p + 1) 0 9 = -1
    · rw [if_pos q1]
      refine ⟨fun j hj => ?_, fun _ => e1 ▸ q1, by omega⟩
      have z : j = 0 := by omega
      rw [z]
      exact r0
    rw [if_neg q1]
    have r1 : Gd 0 n b p 1 := Classical.byContradiction fun z => q1 (e1.symm ▸ z)
    by_cases q2 : figV n b (p + 2) 0 9 = -1
    · rw [if_pos q2]
      refine ⟨fun j hj => ?_, fun _ => e2 ▸ q2, by omega⟩
      rcases (show j = 0 ∨ j = 1 by omega) with rfl | rfl
      · exact r0
      · exact r1
    rw [if_neg q2]
    have r2 : Gd 0 n b p 2 := Classical.byContradiction fun z => q2 (e2.symm ▸ z)
    by_cases q3 : figV n b (p + 3) 0 7 = -1
    · rw [if_pos q3]
      refine ⟨fun j hj => ?_, fun _ => e3 ▸ q3, by omega⟩
      rcases (show j = 0 ∨ j = 1 ∨ j = 2 by omega) with rfl | rfl | rfl
      · exact r0
      · exact r1
      · exact r2
    rw [if_neg q3]
    have r3 : Gd 0 n b p 3 := Classical.byContradiction fun z => q3 (e3.symm ▸ z)
    refine ⟨fun j hj => ?_, fun h => absurd h (by omega), by omega⟩
    rcases (show j = 0 ∨ j = 1 ∨ j = 2 ∨ j = 3 by omega) with rfl | rfl | rfl | rfl
    · exact r0
    · exact r1
    · exact r2
    · exact r3
  | 1, _ =>
    have g0 : Gd 1 n b p 0 = (p < n ∧ fitN 102 (b p) = true) := rfl
    have g1 : Gd 1 n b p 1 = (p + 1 < n ∧ fitN 110 (b (p + 1)) = true) := rfl
    have e0 : (figV n b p 0 9 = -1) = ¬ Gd 1 n b p 0 := by rw [fe _ _ _ (by decide) (by decide), g0, fit_102]
    have e1 : (figV n b (p + 1) 1 9 = -1) = ¬ Gd 1 n b p 1 := by rw [fe _ _ _ (by decide) (by decide), g1, fit_110]
    have s4 : szN 1 = 2 := by decide
    rw [goV1, s4]
    unfold innV
    by_cases q0 : figV n b p 0 9 = -1
    · rw [if_pos q0]
      exact ⟨fun j hj => by omega, fun _ => e0 ▸ q0, by omega⟩
    rw [if_neg q0]
    have r0 : Gd 1 n b p 0 := Classical.byContradiction fun z => q0 (e0.symm ▸ z)
    by_cases q1 : figV n b (p + 1) 1 9 = -1
    · rw [if_pos q1]
      refine ⟨fun j hj => ?_, fun _ => e1 ▸ q1, by omega⟩
      have z : j = 0 := by omega
      rw [z]
      exact r0
    rw [if_neg q1]
    have r1 : Gd 1 n b p 1 := Classical.byContradiction fun z => q1 (e1.symm ▸ z)
    refine ⟨fun j hj => ?_, fun h => absurd h (by omega), by omega⟩
    rcases (show j = 0 ∨ j = 1 by omega) with rfl | rfl
    · exact r0
    · exact r1
  | 2, _ =>
    have g0 : Gd 2 n b p 0 = (p < n ∧ fitN 100 (b p) = true) := rfl
    have g1 : Gd 2 n b p 1 = (p + 1 < n ∧ fitN 102 (b (p + 1)) = true) := rfl
    have g2 : Gd 2 n b p 2 = (p + 2 < n ∧ fitN 110 (b (p + 2)) = true) := rfl
    have g3 : Gd 2 n b p 3 = (p + 3 < n ∧ fitN 102 (b (p + 3)) = true) := rfl
    have g4 : Gd 2 n b p 4 = (p + 4 < n ∧ fitN 102 (b (p + 4)) = true) := rfl
    have e0 : (figV n b p 0 2 = -1) = ¬ Gd 2 n b p 0 := by rw [fe _ _ _ (by decide) (by decide), g0, fit_100]
    have e1 : (figV n b (p + 1) 0 9 = -1) = ¬ Gd 2 n b p 1 := by rw [fe _ _ _ (by decide) (by decide), g1, fit_102]
    have e2 : (figV n b (p + 2) 1 9 = -1) = ¬ Gd 2 n b p 2 := by rw [fe _ _ _ (by decide) (by decide), g2, fit_110]
    have e3 : (figV n b (p + 3) 0 9 = -1) = ¬ Gd 2 n b p 3 := by rw [fe _ _ _ (by decide) (by decide), g3, fit_102]
    have e4 : (figV n b (p + 4) 0 9 = -1) = ¬ Gd 2 n b p 4 := by rw [fe _ _ _ (by decide) (by decide), g4, fit_102]
    have s4 : szN 2 = 5 := by decide
    rw [goV2, s4]
    unfold shpV
    by_cases q0 : figV n b p 0 2 = -1
    · rw [if_pos q0]
      exact ⟨fun j hj => by omega, fun _ => e0 ▸ q0, by omega⟩
    rw [if_neg q0]
    have r0 : Gd 2 n b p 0 := Classical.byContradiction fun z => q0 (e0.symm ▸ z)
    by_cases q1 : figV n b (p + 1) 0 9 = -1
    · rw [if_pos q1]
      refine ⟨fun j hj => ?_, fun _ => e1 ▸ q1, by omega⟩
      have z : j = 0 := by omega
      rw [z]
      exact r0
    rw [if_neg q1]
    have r1 : Gd 2 n b p 1 := Classical.byContradiction fun z => q1 (e1.symm ▸ z)
    by_cases q2 : figV n b (p + 2) 1 9 = -1
    · rw [if_pos q2]
      refine ⟨fun j hj => ?_, fun _ => e2 ▸ q2, by omega⟩
      rcases (show j = 0 ∨ j = 1 by omega) with rfl | rfl
      · exact r0
      · exact r1
    rw [if_neg q2]
    have r2 : Gd 2 n b p 2 := Classical.byContradiction fun z => q2 (e2.symm ▸ z)
    by_cases q3 : figV n b (p + 3) 0 9 = -1
    · rw [if_pos q3]
      refine ⟨fun j hj => ?_, fun _ => e3 ▸ q3, by omega⟩
      rcases (show j = 0 ∨ j = 1 ∨ j = 2 by omega) with rfl | rfl | rfl
      · exact r0
      · exact r1
      · exact r2
    rw [if_neg q3]
    have r3 : Gd 2 n b p 3 := Classical.byContradiction fun z => q3 (e3.symm ▸ z)
    by_cases q4 : figV n b (p + 4) 0 9 = -1
    · rw [if_pos q4]
      refine ⟨fun j hj => ?_, fun _ => e4 ▸ q4, by omega⟩
      rcases (show j = 0 ∨ j = 1 ∨ j = 2 ∨ j = 3 by omega) with rfl | rfl | rfl | rfl
      · exact r0
      · exact r1
      · exact r2
      · exact r3
    rw [if_neg q4]
    have r4 : Gd 2 n b p 4 := Classical.byContradiction fun z => q4 (e4.symm ▸ z)
    refine ⟨fun j hj => ?_, fun h => absurd h (by omega), by omega⟩
    rcases (show j = 0 ∨ j = 1 ∨ j = 2 ∨ j = 3 ∨ j = 4 by omega) with rfl | rfl | rfl | rfl | rfl
    · exact r0
    · exact r1
    · exact r2
    · exact r3
    · exact r4
/-- the pure town's rows out of a text -/
def wv (t : Nat) (b : Nat → Nat) (i k : Nat) : Int32 := if t = 0 then (if i = 1 then nI (kindN (b (k * 5))) else nI (b (k * 5 + (i - 1)) - 48)) else if t = 1 then nI (b (k * 3 + (i - 5)) - 48) else if i = 7 then nI (10 * (b (k * 6) - 48) + (b (k * 6 + 1) - 48)) else nI (b (k * 6 + (i - 6)) - 48)
def rwL (t : Nat) : Nat := if t = 0 then 1 else if t = 1 then 5 else 7
def rwH (t : Nat) : Nat := if t = 0 then 4 else if t = 1 then 6 else 10
theorem fig_v {p lo hi : Nat} (hb : ∀ i, i < n → b i < 256) (hlo : lo < 2) (hhi : hi < 10) (h : p < n ∧ 48 + lo ≤ b p ∧ b p ≤ 48 + hi) : figV n b p lo hi = nI (b p - 48) := by
  rw [fig_e (hb p) hlo hhi, if_pos h]
theorem go_cells (ht : t ≤ 2) {k p : Nat} (hp : p = k * stp t) (hb : ∀ i, i < n → b i < 256) (hg : goV t n b p = szN t) : (∀ i, rwL t ≤ i → i ≤ rwH t → goW t n b k p m (75 + i) k = wv t b i k) ∧ (∀ a j, j ≠ k → goW t n b k p m a j = m a j) ∧ (∀ i, 1 ≤ i → i ≤ 10 → (i < rwL t ∨ rwH t < i) → goW t n b k p m (75 + i) = m (75 + i)) := by
  have sp := (go_spec (t := t) ht (p := p) hb).1
  rw [hg] at sp
  match t, ht with
  | 0, _ =>
    have hp : p = k * 5 := hp
    subst hp
    rw [goV0] at hg
    have hg : manV n b (k * 5) = 4 := hg.trans (by decide)
    have g0 : k * 5 < n ∧ fitN 107 (b (k * 5)) = true := sp 0 (by decide)
    have g1 : k * 5 + 1 < n ∧ fitN 102 (b (k * 5 + 1)) = true := sp 1 (by decide)
    have g2 : k * 5 + 2 < n ∧ fitN 102 (b (k * 5 + 2)) = true := sp 2 (by decide)
    have g3 : k * 5 + 3 < n ∧ fitN 104 (b (k * 5 + 3)) = true := sp 3 (by decide)
    rw [fit_102] at g1 g2
    rw [fit_104] at g3
    have e : goW 0 n b k (k * 5) m = up (up (up (up m 76 k (nI (kindN (b (k * 5))))) 77 k (nI (b (k * 5 + 1) - 48))) 78 k (nI (b (k * 5 + 2) - 48))) 79 k (nI (b (k * 5 + 3) - 48)) := by
      rw [goW0]
      unfold manW
      rw [if_pos hg, kind_e (hb _), if_pos g0, fig_v hb (by decide) (by decide) g1, fig_v hb (by decide) (by decide) g2, fig_v hb (by decide) (by decide) g3]
    rw [e]
    refine ⟨fun i h1 h2 => ?_, fun a j hj => ?_, fun i h1 h2 h3 => ?_⟩
    · have h1 : 1 ≤ i := h1
      have h2 : i ≤ 4 := h2
      rcases (show i = 1 ∨ i = 2 ∨ i = 3 ∨ i = 4 by omega) with rfl | rfl | rfl | rfl <;> simp [up_ap, wv]
    · rw [up_off (by omega), up_off (by omega), up_off (by omega), up_off (by omega)]
    · have h3 : i < 1 ∨ 4 < i := h3
      rw [up_row (by omega), up_row (by omega), up_row (by omega), up_row (by omega)]
  | 1, _ =>
    have hp : p = k * 3 := hp
    subst hp
    rw [goV1] at hg
    have hg : innV n b (k * 3) = 2 := hg.trans (by decide)
    have g0 : k * 3 < n ∧ fitN 102 (b (k * 3)) = true := sp 0 (by decide)
    have g1 : k * 3 + 1 < n ∧ fitN 110 (b (k * 3 + 1)) = true := sp 1 (by decide)
    rw [fit_102] at g0
    rw [fit_110] at g1
    have e : goW 1 n b k (k * 3) m = up (up m 80 k (nI (b (k * 3) - 48))) 81 k (nI (b (k * 3 + 1) - 48)) := by
      rw [goW1]
      unfold innW
      rw [if_pos hg, fig_v hb (by decide) (by decide) g0, fig_v hb (by decide) (by decide) g1]
    rw [e]
    refine ⟨fun i h1 h2 => ?_, fun a j hj => ?_, fun i h1 h2 h3 => ?_⟩
    · have h1 : 5 ≤ i := h1
      have h2 : i ≤ 6 := h2
      rcases (show i = 5 ∨ i = 6 by omega) with rfl | rfl <;> simp [up_ap, wv]
    · rw [up_off (by omega), up_off (by omega)]
    · have h3 : i < 5 ∨ 6 < i := h3
      rw [up_row (by omega), up_row (by omega)]
  | 2, _ =>
    have hp : p = k * 6 := hp
    subst hp
    rw [goV2] at hg
    have hg : shpV n b (k * 6) = 5 := hg.trans (by decide)
    have g0 : k * 6 < n ∧ fitN 100 (b (k * 6)) = true := sp 0 (by decide)
    have g1 : k * 6 + 1 < n ∧ fitN 102 (b (k * 6 + 1)) = true := sp 1 (by decide)
    have g2 : k * 6 + 2 < n ∧ fitN 110 (b (k * 6 + 2)) = true := sp 2 (by decide)
    have g3 : k * 6 + 3 < n ∧ fitN 102 (b (k * 6 + 3)) = true := sp 3 (by decide)
    have g4 : k * 6 + 4 < n ∧ fitN 102 (b (k * 6 + 4)) = true := sp 4 (by decide)
    rw [fit_100] at g0
    rw [fit_102] at g1 g3 g4
    rw [fit_110] at g2
    have e : goW 2 n b k (k * 6) m = up (up (up (up m 82 k (nI (10 * (b (k * 6) - 48) + (b (k * 6 + 1) - 48)))) 83 k (nI (b (k * 6 + 2) - 48))) 84 k (nI (b (k * 6 + 3) - 48))) 85 k (nI (b (k * 6 + 4) - 48)) := by
      rw [goW2]
      unfold shpW
      rw [if_pos hg, fig_v hb (by decide) (by decide) g0, fig_v hb (by decide) (by decide) g1, fig_v hb (by decide) (by decide) g2, fig_v hb (by decide) (by decide) g3, fig_v hb (by decide) (by decide) g4, nI_mul8, nI_add]
    rw [e]
    refine ⟨fun i h1 h2 => ?_, fun a j hj => ?_, fun i h1 h2 h3 => ?_⟩
    · have h1 : 7 ≤ i := h1
      have h2 : i ≤ 10 := h2
      rcases (show i = 7 ∨ i = 8 ∨ i = 9 ∨ i = 10 by omega) with rfl | rfl | rfl | rfl <;> simp [up_ap, wv]
    · rw [up_off (by omega), up_off (by omega), up_off (by omega), up_off (by omega)]
    · have h3 : i < 7 ∨ 10 < i := h3
      rw [up_row (by omega), up_row (by omega), up_row (by omega), up_row (by omega)]
end PARSE
