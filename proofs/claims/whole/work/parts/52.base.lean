section BASE
variable {S : AScr} {f : Nat} {m m2 m3 M : AMem} {Rt : Option Value → AMem → Prop} {men inns fleet : Nat} {w : AMem} {N : Nat → Nat} {B : Nat → Nat → Nat}
def mN (N : Nat → Nat) (B : Nat → Nat → Nat) : Nat := itemsN 0 (N 0) (B 0)
def iN (N : Nat → Nat) (B : Nat → Nat → Nat) : Nat := itemsN 1 (N 1) (B 1)
def fN (N : Nat → Nat) (B : Nat → Nat → Nat) : Nat := itemsN 2 (N 2) (B 2)
/-- the town that is told, with the set a away -/
def wA (N : Nat → Nat) (B : Nat → Nat → Nat) (a : Int32) : AMem := wT (B 0) (B 1) (B 2) (nI (N 3)) a
def w0 (N : Nat → Nat) (B : Nat → Nat → Nat) : AMem := wA N B (nI 0)
def ShL (s : Nat) (m : AMem) : Prop := (∃ n, n ≤ 60 ∧ m (65 + s) 2 = nI n ∧ m 101 s = nI n) ∧ ((m (65 + s) 1 = -1 ∧ m 99 s = nI 0) ∨ ∃ fo, fo < 3 ∧ m (65 + s) 1 = nI fo ∧ m 99 s = nI 1 ∧ m 100 s = nI fo) ∧ ∀ i, i < 60 → m (69 + s) i = m 102 (60 * s + i)
/-- what holds between the calls, without what the class keeps of runs -/
def Bs (N : Nat → Nat) (B : Nat → Nat → Nat) (m : AMem) : Prop :=
  (∀ t, t < 3 → Tx t (N t) (B t) m ∧ Ux t (N t) (B t) m) ∧ (N 3 < 10 ∧ m 8 3 = nI (N 3) ∧ m 73 15 = nI (N 3) ∧ m 8 4 = nI 0) ∧ CW 8 (mN N B) (iN N B) (fN N B) (w0 N B) m ∧ Sg (N 4) (B 3) (B 4) (B 5) m ∧ (m 73 27 = nI (N 4) ∧ ∀ i, i < N 4 → m 95 i = nI (B 3 i) ∧ m 96 i = nI (B 4 i) ∧ m 97 i = nI (B 5 i)) ∧ m 0 11 = m 73 37 ∧ ∀ s, s < 4 → ShL s m
def DaysOK (N : Nat → Nat) (B : Nat → Nat → Nat) (m : AMem) : Prop := Sim 30 (mN N B) (iN N B) m (rs (mN N B) (iN N B) (fN N B) (w0 N B) 29) ∧ ∀ z, z < 30 → (∀ k, k < mN N B → m 40 (8 * z + k) = rs (mN N B) (iN N B) (fN N B) (w0 N B) z 86 k ∧ m 41 (8 * z + k) = rs (mN N B) (iN N B) (fN N B) (w0 N B) z 87 k ∧ m 42 (8 * z + k) = rs (mN N B) (iN N B) (fN N B) (w0 N B) z 88 k) ∧ ∀ h, h < 8 → m 43 (8 * z + h) = rs (mN N B) (iN N B) (fN N B) (w0 N B) z 89 h
def FatesOK (N : Nat → Nat) (B : Nat → Nat → Nat) (m : AMem) : Prop := ∀ a, a < 2 ^ fN N B → ∀ k, k < mN N B → m 58 (a * 8 + k) = rs (mN N B) (iN N B) (fN N B) (wA N B (nI a)) 29 93 k
def Ca (N : Nat → Nat) (B : Nat → Nat → Nat) (m : AMem) : Prop := (m 0 9 = nI 0 ∨ DaysOK N B m) ∧ (m 0 10 = nI 0 ∨ FatesOK N B m)
/-- what a question to the class may change; to the other side -/
def Kc (m m2 : AMem) : Prop := ∀ a j, (a = 0 ∧ (j = 9 ∨ j = 10)) ∨ (19 ≤ a ∧ a ≤ 59) ∨ m2 a j = m a j
def Km (m m2 : AMem) : Prop := ∀ a j, (a = 73 ∧ j ≠ 15 ∧ j ≠ 27 ∧ j ≠ 37) ∨ (76 ≤ a ∧ a ≤ 94) ∨ a = 98 ∨ m2 a j = m a j
theorem Kc_at (h : Kc m m2) {a j : Nat} (h1 : ¬ (a = 0 ∧ (j = 9 ∨ j = 10))) (h2 : a < 19 ∨ 59 < a) : m2 a j = m a j := by
  rcases h a j with z | z | z
  · exact absurd z h1
  · omega
  · exact z
theorem Km_at (h : Km m m2) {a j : Nat} (h1 : a ≠ 73 ∨ j = 15 ∨ j = 27 ∨ j = 37) (h2 : a < 76 ∨ 94 < a) (h3 : a ≠ 98) : m2 a j = m a j := by
  rcases h a j with z | z | z | z
  · omega
  · omega
  · omega
  · exact z
theorem Kc_r : Kc m m := fun _ _ => Or.inr (Or.inr rfl)
theorem Km_r : Km m m := fun _ _ => Or.inr (Or.inr (Or.inr rfl))
theorem Kc_t (h : Kc m m2) (h2 : Kc m2 m3) : Kc m m3 := fun a j => by
  rcases h2 a j with z | z | z
  · exact Or.inl z
  · exact Or.inr (Or.inl z)
  · rcases h a j with y | y | y
    · exact Or.inl y
    · exact Or.inr (Or.inl y)
    · exact Or.inr (Or.inr (z.trans y))
theorem Km_t (h : Km m m2) (h2 : Km m2 m3) : Km m m3 := fun a j => by
  rcases h2 a j with z | z | z | z
  · exact Or.inl z
  · exact Or.inr (Or.inl z)
  · exact Or.inr (Or.inr (Or.inl z))
  · rcases h a j with y | y | y | y
    · exact Or.inl y
    · exact Or.inr (Or.inl y)
    · exact Or.inr (Or.inr (Or.inl y))
    · exact Or.inr (Or.inr (Or.inr (z.trans y)))
theorem Kc_up {a j : Nat} {v : Int32} (h : (a = 0 ∧ (j = 9 ∨ j = 10)) ∨ (19 ≤ a ∧ a ≤ 59)) : Kc m (up m a j v) := fun a2 j2 => by
  by_cases z : a2 = a ∧ j2 = j
  · obtain ⟨rfl, rfl⟩ := z
    rcases h with h | h
    · exact Or.inl h
    · exact Or.inr (Or.inl h)
  · exact Or.inr (Or.inr (by rw [up_ap, if_neg z]))
theorem Km_up {a j : Nat} {v : Int32} (h : (a = 73 ∧ j ≠ 15 ∧ j ≠ 27 ∧ j ≠ 37) ∨ (76 ≤ a ∧ a ≤ 94) ∨ a = 98) : Km m (up m a j v) := fun a2 j2 => by
  by_cases z : a2 = a ∧ j2 = j
  · obtain ⟨rfl, rfl⟩ := z
    rcases h with h | h | h
    · exact Or.inl h
    · exact Or.inr (Or.inl h)
    · exact Or.inr (Or.inr (Or.inl h))
  · exact Or.inr (Or.inr (Or.inr (by rw [up_ap, if_neg z])))
theorem Km_rows (h : ∀ a, a ≠ 73 → (a < 76 ∨ 94 < a) → a ≠ 98 → m2 a = m a) (h2 : ∀ j, j = 15 ∨ j = 27 ∨ j = 37 → m2 73 j = m 73 j) : Km m m2 := fun a j => by
  by_cases z : a = 73
  · subst z
    by_cases y : j = 15 ∨ j = 27 ∨ j = 37
    · exact Or.inr (Or.inr (Or.inr (h2 j y)))
    · exact Or.inl ⟨rfl, by omega⟩
  · by_cases y : 76 ≤ a ∧ a ≤ 94
    · exact Or.inr (Or.inl y)
    · by_cases x : a = 98
      · exact Or.inr (Or.inr (Or.inl x))
      · exact Or.inr (Or.inr (Or.inr (by rw [h a z (by omega) x])))
theorem Kc_rows (h : ∀ a j, ¬ (a = 0 ∧ (j = 9 ∨ j = 10)) → (a < 19 ∨ 59 < a) → m2 a j = m a j) : Kc m m2 := fun a j => by
  by_cases z : a = 0 ∧ (j = 9 ∨ j = 10)
  · exact Or.inl z
  · by_cases y : 19 ≤ a ∧ a ≤ 59
    · exact Or.inr (Or.inl y)
    · exact Or.inr (Or.inr (h a j z (by omega)))
def PB (a j : Nat) : Prop := (a = 0 → j = 11) ∧ (a < 19 ∨ 59 < a) ∧ (a = 73 → j = 15 ∨ j = 27 ∨ j = 37) ∧ (a < 76 ∨ 94 < a) ∧ a ≠ 98
theorem Bs_eq (h : Bs N B m) (hk : ∀ a j, PB a j → m2 a j = m a j) : Bs N B m2 := by
  obtain ⟨h1, h2, h3, h4, h5, h6, h7⟩ := h
  have row : ∀ a, a ≠ 0 → (a < 19 ∨ 59 < a) → a ≠ 73 → (a < 76 ∨ 94 < a) → a ≠ 98 → m2 a = m a := fun a z1 z2 z3 z4 z5 => funext fun j => hk a j ⟨fun y => absurd y z1, z2, fun y => absurd y z3, z4, z5⟩
  refine ⟨fun t ht => ⟨Tx_keep (h1 t ht).1 (row _ (by omega) (by omega) (by omega) (by omega) (by omega)) (row _ (by omega) (by omega) (by omega) (by omega) (by omega)), Ux_keep (h1 t ht).2 (row _ (by omega) (by omega) (by omega) (by omega) (by omega)) (row _ (by omega) (by omega) (by omega) (by omega) (by omega))⟩, ?_, CW_keep h3 (fun a j a1 a2 => by rw [row a (by omega) (by omega) (by omega) (by omega) (by omega)]), Sg_far h4 (fun a j a1 a2 => by rw [row a (by omega) (by omega) (by omega) (by omega) (by omega)]), ?_, ?_, fun s hs => ?_⟩
  · rw [row 8 (by omega) (by omega) (by omega) (by omega) (by omega), hk 73 15 ⟨by omega, by omega, by omega, by omega, by omega⟩]
    exact h2
  · rw [row 95 (by omega) (by omega) (by omega) (by omega) (by omega), row 96 (by omega) (by omega) (by omega) (by omega) (by omega), row 97 (by omega) (by omega) (by omega) (by omega) (by omega), hk 73 27 ⟨by omega, by omega, by omega, by omega, by omega⟩]
    exact h5
  · rw [hk 0 11 ⟨by omega, by omega, by omega, by omega, by omega⟩, hk 73 37 ⟨by omega, by omega, by omega, by omega, by omega⟩]
    exact h6
  · unfold ShL
    rw [row (65 + s) (by omega) (by omega) (by omega) (by omega) (by omega), row (69 + s) (by omega) (by omega) (by omega) (by omega) (by omega), row 99 (by omega) (by omega) (by omega) (by omega) (by omega), row 100 (by omega) (by omega) (by omega) (by omega) (by omega), row 101 (by omega) (by omega) (by omega) (by omega) (by omega), row 102 (by omega) (by omega) (by omega) (by omega) (by omega)]
    exact h7 s hs
theorem Bs_c (h : Bs N B m) (hk : Kc m m2) : Bs N B m2 := Bs_eq h (fun a j p => Kc_at hk (fun z => by have := p.1 z.1; omega) p.2.1)
theorem Bs_m (h : Bs N B m) (hk : Km m m2) : Bs N B m2 := Bs_eq h (fun a j p => Km_at hk ((Classical.em (a = 73)).elim (fun z => Or.inr (p.2.2.1 z)) Or.inl) p.2.2.2.1 p.2.2.2.2)
theorem Ca_m (h : Ca N B m) (hk : Km m m2) : Ca N B m2 := by
  have row : ∀ a, a < 73 → m2 a = m a := fun a ha => funext fun j => Km_at hk (by omega) (by omega) (by omega)
  unfold Ca DaysOK FatesOK Sim
  rw [row 0 (by omega), row (30 + 1) (by omega), row (30 + 2) (by omega), row (30 + 3) (by omega), row (30 + 4) (by omega), row (30 + 5) (by omega), row (30 + 7) (by omega), row (30 + 8) (by omega), row (30 + 9) (by omega), row 30 (by omega), row 40 (by omega), row 41 (by omega), row 42 (by omega), row 43 (by omega), row 58 (by omega)]
  exact h
theorem Bs_bd (h : Bs N B m) {t : Nat} (ht : t < 3) : N t ≤ tcap t ∧ ∀ i, i < N t → B t i < 256 := ⟨(h.1 t ht).1.2.1, fun i hi => ((h.1 t ht).1.2.2 i hi).2⟩
theorem Bs_ok (h : Bs N B m) {a : Nat} (ha : a < 64) : Wok (mN N B) (iN N B) (fN N B) (wA N B (nI a)) := wT_ok (Bs_bd h (t := 0) (by decide)).1 (Bs_bd h (t := 1) (by decide)).1 (Bs_bd h (t := 2) (by decide)).1 (Bs_bd h (t := 0) (by decide)).2 h.2.1.1 ha
theorem Bs_ok0 (h : Bs N B m) : Wok (mN N B) (iN N B) (fN N B) (w0 N B) := Bs_ok h (by decide)
theorem Bs_TS (h : Bs N B m) : TS (mN N B) (iN N B) (fN N B) m := ⟨h.2.2.1.1.1, h.2.2.1.1.2.1, h.2.2.1.1.2.2, (Bs_ok0 h).1⟩
theorem wA_up {a b : Int32} : up (wA N B a) 0 4 b = wA N B b := by
  funext i k
  rw [up_ap]
  unfold wA wT
  by_cases z : i = 0
  · by_cases y : k = 4
    · subst z
      subst y
      rw [if_pos ⟨rfl, rfl⟩]
      rfl
    · rw [if_neg (fun x => y x.2)]
      simp only [if_pos z, if_neg y]
  · rw [if_neg (fun x => z x.1)]
    simp only [if_neg z]
theorem CW_up {t i x : Nat} {v : Int32} (h : CW t men inns fleet w m) (hi : 1 ≤ i ∧ i ≤ 10) : CW t men inns fleet (up w i x v) (up m (t + i) x v) := by
  obtain ⟨h1, h2, h3, h4, h5⟩ := h
  have e : ∀ i2 k, 1 ≤ i2 → m (t + i2) k = w i2 k → up m (t + i) x v (t + i2) k = up w i x v i2 k := fun i2 k _ e => by
    rw [up_ap, up_ap, e]
    by_cases z : i2 = i ∧ k = x
    · rw [if_pos z, if_pos (by omega)]
    · rw [if_neg z, if_neg (by omega)]
  refine ⟨?_, ?_, fun i2 k a1 a2 a3 => e i2 k (by omega) (h3 i2 k a1 a2 a3), fun i2 k a1 a2 a3 => e i2 k (by omega) (h4 i2 k a1 a2 a3), fun i2 k a1 a2 a3 => e i2 k (by omega) (h5 i2 k a1 a2 a3)⟩
  · rw [up_row (by omega)]
    exact h1
  · rw [up_row (by omega), up_row (by omega)]
    exact h2
theorem CW_abs {t : Nat} {v : Int32} (h : CW t men inns fleet w m) : CW t men inns fleet (up w 0 4 v) (up m t 4 v) := by
  obtain ⟨h1, h2, h3, h4, h5⟩ := h
  refine ⟨?_, ?_, fun i2 k a1 a2 a3 => ?_, fun i2 k a1 a2 a3 => ?_, fun i2 k a1 a2 a3 => ?_⟩
  · rw [up_off (by omega), up_off (by omega), up_off (by omega)]
    exact h1
  · rw [up_off (by omega), up_off (by omega), up_at, up_at]
    exact ⟨h2.1, rfl⟩
  · rw [up_row (by omega), up_row (by omega)]; exact h3 i2 k a1 a2 a3
  · rw [up_row (by omega), up_row (by omega)]; exact h4 i2 k a1 a2 a3
  · rw [up_row (by omega), up_row (by omega)]; exact h5 i2 k a1 a2 a3
theorem MW_up {i x : Nat} {v : Int32} (h : MW men inns fleet w M) (hi : 1 ≤ i ∧ i ≤ 10) : MW men inns fleet (up w i x v) (up M (75 + i) x v) := by
  obtain ⟨h1, h2, h3, h4, h5⟩ := h
  have e : ∀ i2 k, 1 ≤ i2 → M (75 + i2) k = w i2 k → up M (75 + i) x v (75 + i2) k = up w i x v i2 k := fun i2 k _ e => by
    rw [up_ap, up_ap, e]
    by_cases z : i2 = i ∧ k = x
    · rw [if_pos z, if_pos (by omega)]
    · rw [if_neg z, if_neg (by omega)]
  refine ⟨?_, ?_, fun i2 k a1 a2 a3 => e i2 k (by omega) (h3 i2 k a1 a2 a3), fun i2 k a1 a2 a3 => e i2 k (by omega) (h4 i2 k a1 a2 a3), fun i2 k a1 a2 a3 => e i2 k (by omega) (h5 i2 k a1 a2 a3)⟩
  · rw [up_row (by omega)]
    exact h1
  · rw [up_row (by omega), up_row (by omega)]
    exact h2
theorem MW_abs {v : Int32} (h : MW men inns fleet w M) : MW men inns fleet (up w 0 4 v) (up M 73 16 v) := by
  obtain ⟨h1, h2, h3, h4, h5⟩ := h
  refine ⟨?_, ?_, fun i2 k a1 a2 a3 => ?_, fun i2 k a1 a2 a3 => ?_, fun i2 k a1 a2 a3 => ?_⟩
  · rw [up_off (by omega), up_off (by omega), up_off (by omega)]
    exact h1
  · rw [up_off (by omega), up_off (by omega), up_at, up_at]
    exact ⟨h2.1, rfl⟩
  · rw [up_row (by omega), up_row (by omega)]; exact h3 i2 k a1 a2 a3
  · rw [up_row (by omega), up_row (by omega)]; exact h4 i2 k a1 a2 a3
  · rw [up_row (by omega), up_row (by omega)]; exact h5 i2 k a1 a2 a3
theorem up_up {k j : Nat} {v x : Int32} : up (up m k j v) k j x = up m k j x := by
  funext a i
  rw [up_ap, up_ap, up_ap]
  by_cases z : a = k ∧ i = j
  · rw [if_pos z, if_pos z]
  · rw [if_neg z, if_neg z, if_neg z]
theorem MW_run {z : Nat} (h : MW men inns fleet w M) : MW men inns fleet w (mRunM men fleet z M) := MW_keep h (fun j hj => run_73 hj) (fun a h1 h2 => run_row (by omega))
theorem Km_run {z : Nat} : Km M (mRunM men fleet z M) := Km_rows (fun a h1 h2 h3 => run_row (by omega)) (fun j hj => run_73 (by omega))
theorem MT_of (hw : Wok men inns fleet w) (h : MW men inns fleet w M) : MT men inns fleet (loN w) M := ⟨h.1, hw.1, fun k hk => by
  rw [show M 79 k = w 4 k from h.2.2.1 4 k (by omega) (by omega) hk]
  exact Wlo hw hk⟩
def ndN (w : AMem) (s : Nat) : Nat := (w 8 s).toNatClampNeg
theorem MD_of (hw : Wok men inns fleet w) (h : MW men inns fleet w M) : MD fleet (tiN w) (ndN w) M := fun s hs => by
  rw [show M 82 s = w 7 s from h.2.2.2.2 7 s (by omega) (by omega) hs, show M 83 s = w 8 s from h.2.2.2.2 8 s (by omega) (by omega) hs]
  refine ⟨Wti hw hs, ?_⟩
  obtain ⟨a, ha, e⟩ := (hw.2.2.2.1 s hs).2.1
  unfold ndN
  rw [e, nI_cl8 (by omega)]
  exact ⟨rfl, ha⟩
/-- a run on the other side -/
theorem s_mr (hw : Wok men inns fleet w) (h : MW men inns fleet w M) {z : Nat} (hz : z < 90) : T S (f + 5) 115 0 [some (.ref 73), some (.int (nI z)), none] [] M Rt = Rt none (mRunM men fleet z M) := s_mRuns (MT_of hw h) (MD_of hw h) hz
/-- reading on the other side -/
theorem rd_ok (h : Bs N B m) : ∃ M x, Rd S m M ∧ Km m M ∧ MW (mN N B) (iN N B) (fN N B) (wA N B x) M := by
  have x0 := Bs_bd h (t := 0) (by decide)
  have x1 := Bs_bd h (t := 1) (by decide)
  have x2 := Bs_bd h (t := 2) (by decide)
  obtain ⟨r1, r2, r3⟩ := reads_MW (m := m) x0.1 x1.1 x2.1 x0.2 x1.2 x2.2
  refine ⟨faultM (N 0) (N 1) (N 2) (B 0) (B 1) (B 2) m, m 73 16, fun f Rt => s_mReads (h.1 0 (by decide)).2 (h.1 1 (by decide)).2 (h.1 2 (by decide)).2, Km_rows (fun a a1 a2 a3 => ?_) (fun j hj => r2 j (by omega)), ?_⟩
  · unfold faultM
    by_cases z : a < 76
    · rw [partsM_row (by omega), partsM_row (by omega), partsM_row (by omega)]
    · rw [partsM_row (by omega), partsM_row (by omega), partsM_row (by omega)]
  · rw [h.2.1.2.2.1] at r1
    exact r1
theorem rd_fault (h : Bs N B m) {t : Nat} (ht : t < 3) : ∃ M x, (∀ (f : Nat) (Rt : Option Value → AMem → Prop), T S (f + 5) 93 0 [some (.ref 73), some (.int (nI t)), none, none, none] [] m Rt = Rt (some (.int (optI (ffN t (N t) (B t))))) M) ∧ Km m M ∧ MW (mN N B) (iN N B) (fN N B) (wA N B x) M := by
  have x0 := Bs_bd h (t := 0) (by decide)
  have x1 := Bs_bd h (t := 1) (by decide)
  have x2 := Bs_bd h (t := 2) (by decide)
  obtain ⟨r1, r2, r3⟩ := reads_MW (m := m) x0.1 x1.1 x2.1 x0.2 x1.2 x2.2
  refine ⟨faultM (N 0) (N 1) (N 2) (B 0) (B 1) (B 2) m, m 73 16, fun f Rt => ?_, Km_rows (fun a a1 a2 a3 => ?_) (fun j hj => r2 j (by omega)), ?_⟩
  · rw [s_mFaultOf (h.1 0 (by decide)).2 (h.1 1 (by decide)).2 (h.1 2 (by decide)).2 ht, r3 t ht]
    match t, ht with
    | 0, _ => rfl
    | 1, _ => rfl
    | 2, _ => rfl
  · unfold faultM
    by_cases z : a < 76
    · rw [partsM_row (by omega), partsM_row (by omega), partsM_row (by omega)]
    · rw [partsM_row (by omega), partsM_row (by omega), partsM_row (by omega)]
  · rw [h.2.1.2.2.1] at r1
    exact r1
/-- a loop that keeps something out of sight -/
theorem it_runE {α γ ρ : Type} (G : Nat → α → γ → ρ → Prop) (F : Nat → α → α) (P : Nat → α → γ → Prop) (n : Nat) (h : ∀ k, k < n → ∀ s x, P k s x → ∃ x2, P (k + 1) (F k s) x2 ∧ ∀ r, G k s x r = G (k + 1) (F k s) x2 r) (s : α) (x : γ) (h0 : P 0 s x) : ∃ x2, P n (it n F s) x2 ∧ ∀ r, G 0 s x r = G n (it n F s) x2 r := by
  have key : ∀ j, j ≤ n → ∃ x2, P j (it j F s) x2 ∧ ∀ r, G 0 s x r = G j (it j F s) x2 r := by
    intro j
    induction j with
    | zero => intro _; exact ⟨x, h0, fun _ => rfl⟩
    | succ j ih =>
      intro hj
      obtain ⟨x2, p2, e2⟩ := ih (by omega)
      obtain ⟨x3, p3, e3⟩ := h j (by omega) _ x2 p2
      exact ⟨x3, p3, fun r => (e2 r).trans (e3 r)⟩
  exact key n (Nat.le_refl n)
/-- the class's other run -/
theorem s_or {S : AScr} (h : TT men inns fleet m) (hc : CW 19 men inns fleet w m) (hw : Wok men inns fleet w) : Sim 44 men inns (runM 44 19 men fleet m) (rs men inns fleet w 29) ∧ CW 19 men inns fleet w (runM 44 19 men fleet m) := ⟨run_rs (Or.inr ⟨rfl, rfl⟩) hw hc, CW_keep hc (fun a j h1 h2 => runM_t (by omega))⟩
theorem CW_bec (h : CW 8 men inns fleet w m) (hw : men ≤ 8 ∧ inns ≤ 8 ∧ fleet ≤ 6) : CW 19 men inns fleet w (becomeM m) := by
  obtain ⟨h1, h2, h3, h4, h5⟩ := h
  have cp : ∀ (g q : Nat → Int32) (n k : Nat), k < n → va_cpy g q 0 0 n k = g k := fun g q n k hk => by
    unfold va_cpy
    rw [if_pos (by omega)]
    congr 1
    omega
  refine ⟨?_, ?_, fun i k a1 a2 a3 => ?_, fun i k a1 a2 a3 => ?_, fun i k a1 a2 a3 => ?_⟩
  · rw [becomeM_n, becomeM_n, becomeM_n, if_pos (by decide), if_pos (by decide), if_pos (by decide)]
    exact h1
  · rw [becomeM_n, becomeM_n, if_pos (by decide), if_pos (by decide)]
    exact h2
  · rw [← h3 i k a1 a2 a3]
    rcases (show i = 1 ∨ i = 2 ∨ i = 3 ∨ i = 4 by omega) with rfl | rfl | rfl | rfl
    all_goals
      simp [becomeM, up_ap, upA_ap]
      exact cp _ _ _ _ (by omega)
  · rw [← h4 i k a1 a2 a3]
    rcases (show i = 5 ∨ i = 6 by omega) with rfl | rfl
    all_goals
      simp [becomeM, up_ap, upA_ap]
      exact cp _ _ _ _ (by omega)
  · rw [← h5 i k a1 a2 a3]
    rcases (show i = 7 ∨ i = 8 ∨ i = 9 ∨ i = 10 by omega) with rfl | rfl | rfl | rfl
    all_goals
      simp [becomeM, up_ap, upA_ap]
      exact cp _ _ _ _ (by omega)
theorem Kc_bec : Kc m (becomeM m) := Kc_rows (fun a j h1 h2 => by rw [becomeM_row (by omega)])
theorem Kc_runO : Kc m (runM 44 19 men fleet m) := Kc_rows (fun a j h1 h2 => runM_t (by omega))
end BASE
