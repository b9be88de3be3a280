section PARTS
variable {m : AMem} {t n : Nat} {b : Nat → Nat}
theorem stp_e (ht : t ≤ 2) : stp t = szN t + 1 := by
  match t, ht with
  | 0, _ => decide
  | 1, _ => decide
  | 2, _ => decide
theorem sgn_59 (ht : t ≤ 2) : sgn t (szN t) = 59 := by
  match t, ht with
  | 0, _ => decide
  | 1, _ => decide
  | 2, _ => decide
theorem sz_pos (ht : t ≤ 2) : 2 ≤ szN t := by
  match t, ht with
  | 0, _ => decide
  | 1, _ => decide
  | 2, _ => decide
theorem go_bad (ht : t ≤ 2) {k p : Nat} (h : goV t n b p < szN t) : goW t n b k p m = m := by
  match t, ht with
  | 0, _ =>
    rw [goV0] at h
    rw [goW0]
    unfold manW
    rw [if_neg (by rw [show szN 0 = 4 by decide] at h; omega)]
  | 1, _ =>
    rw [goV1] at h
    rw [goW1]
    unfold innW
    rw [if_neg (by rw [show szN 1 = 2 by decide] at h; omega)]
  | 2, _ =>
    rw [goV2] at h
    rw [goW2]
    unfold shpW
    rw [if_neg (by rw [show szN 2 = 5 by decide] at h; omega)]
theorem mod_at {k s j : Nat} (h : j < s) : (k * s + j) % s = j := by
  rw [Nat.mul_comm, Nat.mul_add_mod, Nat.mod_eq_of_lt h]
theorem okB_at {k j : Nat} (h : j < stp t) : okB t b (k * stp t + j) = fitN (sgn t j) (b (k * stp t + j)) := by
  unfold okB
  rw [mod_at h]
def fauN (t n : Nat) (b : Nat → Nat) (p : Nat) : Option Nat := match ffL (okB t b) (n - p) p with
  | some q => some q
  | none => if n % stp t = stp t - 1 then none else some n
theorem ff_fau (hn : 0 < n) : ffN t n b = fauN t n b 0 := by
  unfold ffN fauN
  rw [Nat.sub_zero]
  cases ffL (okB t b) n 0 with
  | some q => rfl
  | none =>
    have e : (n = 0 ∨ n % stp t = stp t - 1) = (n % stp t = stp t - 1) := propext ⟨fun h => h.resolve_left (by omega), Or.inr⟩
    simp only [e]
theorem fau_to {p q : Nat} (h1 : p ≤ q) (h2 : q ≤ n) (h : ∀ i, p ≤ i → i < q → okB t b i = true) : fauN t n b p = fauN t n b q := by
  unfold fauN
  rw [ffL_to (n - p) p q h1 (by omega) h, show p + (n - p) - q = n - q by omega]
theorem fau_hit {p : Nat} (h1 : p < n) (h : okB t b p = false) : fauN t n b p = some p := by
  unfold fauN
  rw [ffL_hit (by omega) h]
theorem fau_end : fauN t n b n = if n % stp t = stp t - 1 then none else some n := by
  unfold fauN
  rw [Nat.sub_self]
  rfl
theorem parts_key (ht : t ≤ 2) (hb : ∀ i, i < n → b i < 256) (hn : 0 < n) (hcap : n + 1 ≤ mostN t * stp t) : ∀ (r k p : Nat) (m : AMem), k + r = mostN t → p = k * stp t → p ≤ n →
    (partsR t n b r k p m).1 = optI (fauN t n b p) ∧
    (∀ j, (partsR t n b r k p m).2 73 j = if fauN t n b p = none ∧ j = kpS t then nI ((n + 1) / stp t) else m 73 j) ∧
    (fauN t n b p = none → ∀ i k2, rwL t ≤ i → i ≤ rwH t → k ≤ k2 → k2 < (n + 1) / stp t → (partsR t n b r k p m).2 (75 + i) k2 = wv t b i k2) ∧
    (∀ i k2, 1 ≤ i → k2 < k → (partsR t n b r k p m).2 (75 + i) k2 = m (75 + i) k2) ∧
    (∀ i, 1 ≤ i → i ≤ 10 → (i < rwL t ∨ rwH t < i) → (partsR t n b r k p m).2 (75 + i) = m (75 + i)) := by
  have hs := stp_e ht
  have h59 := sgn_59 ht
  have hz := sz_pos ht
  intro r
  induction r with
  | zero =>
    intro k p m hk hp hpn
    rw [show k = mostN t by omega] at hp
    omega
  | succ r ih =>
    intro k p m hk hp hpn
    obtain ⟨g1, g2, g3⟩ := go_spec (t := t) ht (p := p) hb
    have ok : ∀ j, j < stp t → okB t b (p + j) = fitN (sgn t j) (b (p + j)) := fun j hj => by rw [hp]; exact okB_at hj
    have good : ∀ i, p ≤ i → i < p + goV t n b p → okB t b i = true := fun i h1 h2 => by
      have := g1 (i - p) (by omega)
      unfold Gd at this
      have e := ok (i - p) (by omega)
      rw [show p + (i - p) = i by omega] at this e
      rw [e]
      exact this.2
    have pn : p + goV t n b p ≤ n := by
      by_cases z : goV t n b p = 0
      · omega
      · have := (g1 (goV t n b p - 1) (by omega)).1
        omega
    unfold partsR
    by_cases q : goV t n b p < szN t
    · rw [if_pos q]
      have f : fauN t n b p = some (p + goV t n b p) := by
        rw [fau_to (q := p + goV t n b p) (by omega) pn good]
        by_cases z : p + goV t n b p < n
        · refine fau_hit z ?_
          rw [ok _ (by omega)]
          cases y : fitN (sgn t (goV t n b p)) (b (p + goV t n b p)) with
          | false => rfl
          | true => exact absurd ⟨z, y⟩ (g2 q)
        · have e : p + goV t n b p = n := by omega
          rw [e, fau_end]
          have : n % stp t = goV t n b p := by
            have y := mod_at (k := k) (s := stp t) (j := goV t n b p) (by omega)
            rw [← hp, e] at y
            exact y
          rw [if_neg (by omega)]
      rw [f]
      dsimp only
      rw [go_bad ht q]
      refine ⟨rfl, fun j => ?_, fun h => (by cases h), fun i k2 _ _ => rfl, fun i _ _ _ => rfl⟩
      rw [if_neg (fun z => by cases z.1)]
    · rw [if_neg q]
      have hg : goV t n b p = szN t := by omega
      rw [hg] at good pn g1
      obtain ⟨c1, c2, c3⟩ := go_cells (m := m) ht hp hb hg
      have r73 : goW t n b k p m 73 = m 73 := goW_row (by omega)
      by_cases q2 : p + szN t = n
      · rw [if_pos q2]
        have f : fauN t n b p = none := by
          rw [fau_to (q := p + szN t) (by omega) pn good, q2, fau_end]
          have : n % stp t = szN t := by rw [← q2, hp]; exact mod_at (by omega)
          rw [if_pos (by omega)]
        have hdiv : (n + 1) / stp t = k + 1 := by
          rw [show n + 1 = (k + 1) * stp t by rw [Nat.add_mul]; omega]
          exact Nat.mul_div_cancel _ (by omega)
        rw [f, hdiv]
        refine ⟨rfl, fun j => ?_, fun _ i k2 h1 h2 h3 h4 => ?_, fun i k2 h1 h2 => ?_, fun i h1 h2 h3 => ?_⟩
        · dsimp only
          by_cases z : j = kpS t
          · rw [if_pos ⟨rfl, z⟩, z, up_at]
          · rw [if_neg (fun y => z y.2), up_off (Or.inr z), r73]
        · dsimp only
          rw [up_off (by omega), show k2 = k by omega]
          exact c1 i h1 h2
        · dsimp only
          rw [up_off (by omega)]
          exact c2 _ _ (by omega)
        · dsimp only
          rw [up_row (by omega)]
          exact c3 i h1 h2 h3
      · rw [if_neg q2]
        have lt : p + szN t < n := by omega
        have e59 : byV n b (p + szN t) = nI (b (p + szN t)) := by unfold byV; rw [if_pos lt]
        have b59 := hb _ lt
        have h9 : (nI (b (p + szN t)) = nI 59) = (b (p + szN t) = 59) := nI_eq8 (by omega) (by decide)
        have ok59 : okB t b (p + szN t) = (b (p + szN t) == 59) := by
          rw [ok _ (by omega), h59]
          rfl
        rw [e59]
        by_cases q3 : b (p + szN t) = 59
        · rw [if_pos (h9.mpr q3)]
          have f : fauN t n b p = fauN t n b (p + szN t + 1) := fau_to (by omega) (by omega) (fun i h1 h2 => by
            by_cases z : i = p + szN t
            · rw [z, ok59, q3]
              rfl
            · exact good i h1 (by omega))
          obtain ⟨i1, i2, i3, i4, i5⟩ := ih (k + 1) (p + szN t + 1) (goW t n b k p m) (by omega) (by rw [Nat.add_mul]; omega) (by omega)
          rw [f]
          refine ⟨i1, fun j => by rw [i2 j, r73], fun h i k2 h1 h2 h3 h4 => ?_, fun i k2 h1 h2 => ?_, fun i h1 h2 h3 => ?_⟩
          · by_cases z : k2 = k
            · rw [z, i4 i k (by unfold rwL at h1; split at h1 <;> try split at h1
                                all_goals omega) (by omega)]
              exact c1 i h1 h2
            · exact i3 h i k2 h1 h2 (by omega) h4
          · rw [i4 i k2 h1 (by omega)]
            exact c2 _ _ (by omega)
          · rw [i5 i h1 h2 h3]
            exact c3 i h1 h2 h3
        · rw [if_neg (fun z => q3 (h9.mp z))]
          have f : fauN t n b p = some (p + szN t) := by
            rw [fau_to (q := p + szN t) (by omega) pn good]
            refine fau_hit lt ?_
            rw [ok59]
            simp [q3]
          rw [f]
          refine ⟨rfl, fun j => ?_, fun h => (by cases h), fun i k2 h1 h2 => c2 _ _ (by omega), fun i h1 h2 h3 => c3 i h1 h2 h3⟩
          rw [if_neg (fun z => by cases z.1)]
          dsimp only
          rw [r73]
/-- a text read on the other side -/
theorem parts_all (ht : t ≤ 2) (hb : ∀ i, i < n → b i < 256) (hcap : n ≤ tcap t) :
    (partsM t n b m).1 = optI (ffN t n b) ∧
    (∀ j, (partsM t n b m).2 73 j = if j = kpS t then nI (itemsN t n b) else m 73 j) ∧
    (∀ i k, rwL t ≤ i → i ≤ rwH t → k < itemsN t n b → (partsM t n b m).2 (75 + i) k = wv t b i k) ∧
    (∀ i, 1 ≤ i → i ≤ 10 → (i < rwL t ∨ rwH t < i) → (partsM t n b m).2 (75 + i) = m (75 + i)) := by
  have hcap2 : n + 1 ≤ mostN t * stp t := by
    match t, ht with
    | 0, _ => show n + 1 ≤ 40; have : n ≤ 39 := hcap; omega
    | 1, _ => show n + 1 ≤ 24; have : n ≤ 23 := hcap; omega
    | 2, _ => show n + 1 ≤ 36; have : n ≤ 35 := hcap; omega
  have hs := stp_e ht
  have hz := sz_pos ht
  unfold partsM
  by_cases q : n = 0
  · rw [if_pos q]
    subst q
    have f : ffN t 0 b = none := rfl
    have it0 : itemsN t 0 b = 0 := by
      unfold itemsN
      rw [f]
      show (0 + 1) / stp t = 0
      exact Nat.div_eq_of_lt (by omega)
    rw [f, it0]
    refine ⟨rfl, fun j => ?_, fun i k _ _ h => by omega, fun i _ _ _ => up_row (by omega)⟩
    dsimp only
    by_cases z : j = kpS t
    · rw [if_pos z, z, up_at]
    · rw [if_neg z, up_off (Or.inr z)]
  · rw [if_neg q]
    obtain ⟨i1, i2, i3, i4, i5⟩ := parts_key ht hb (by omega) hcap2 (mostN t) 0 0 (up m 73 (kpS t) (nI 0)) (by omega) (by omega) (by omega)
    rw [← ff_fau (by omega)] at i1 i2 i3
    refine ⟨i1, fun j => ?_, fun i k h1 h2 h3 => ?_, fun i h1 h2 h3 => (i5 i h1 h2 h3).trans (up_row (by omega))⟩
    · rw [i2 j]
      unfold itemsN
      cases p : ffN t n b with
      | none =>
        by_cases z : j = kpS t
        · rw [if_pos ⟨rfl, z⟩, if_pos z]
        · rw [if_neg (fun y => z y.2), if_neg z, up_off (Or.inr z)]
      | some v =>
        rw [if_neg (fun y => by cases y.1)]
        by_cases z : j = kpS t
        · rw [if_pos z, z, up_at]
        · rw [if_neg z, up_off (Or.inr z)]
    · unfold itemsN at h3
      cases p : ffN t n b with
      | none =>
        rw [p] at h3
        exact i3 p i k h1 h2 (Nat.zero_le _) h3
      | some v =>
        rw [p] at h3
        cases h3
end PARTS
