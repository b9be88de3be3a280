section CSK
variable {S : AScr} {m M X : AMem} {w : AMem} {N : Nat → Nat} {B : Nat → Nat → Nat}
/-- a question to the class, and to the other side -/
def CR (S : AScr) (N : Nat → Nat) (B : Nat → Nat → Nat) (q : Nat) (a : ALoc) (m : AMem) (r : Value) : Prop := ∃ m1, Kc m m1 ∧ Ca N B m1 ∧ ∀ (f : Nat) (Rt : Option Value → AMem → Prop), T S (f + 9) q 0 a [] m Rt = Rt (some r) m1
def MR (S : AScr) (q : Nat) (a : ALoc) (m : AMem) (r : Value) : Prop := ∃ m1, Km m m1 ∧ ∀ (f : Nat) (Rt : Option Value → AMem → Prop), T S (f + 13) q 0 a [] m Rt = Rt (some r) m1
def isD (d : Int32) : Prop := nI 0 ≤ d ∧ d < nI 30
def isK (n : Nat) (x : Int32) : Prop := nI 0 ≤ x ∧ x < nI n
theorem Ca_run (h : Bs N B m) (hc : Ca N B m) : Kc m (monM (mN N B) (fN N B) m) ∧ Ca N B (monM (mN N B) (fN N B) m) ∧ DaysOK N B (monM (mN N B) (fN N B) m) := by
  unfold monM
  by_cases q : m 0 9 = nI 0
  · rw [if_pos q]
    have hw := Bs_ok0 h
    have hS := run_rs (Or.inl ⟨rfl, rfl⟩) hw h.2.2.1
    have hD : DaysOK N B (up (runM 30 8 (mN N B) (fN N B) m) 0 9 (nI 1)) := by
      refine ⟨Sim_keep hS (fun a h1 h2 => up_row (by omega)), fun z hz => ?_⟩
      rw [up_row (by decide), up_row (by decide), up_row (by decide), up_row (by decide)]
      exact behind_rs (Or.inl ⟨rfl, rfl⟩) hw h.2.2.1 hz
    refine ⟨fun a j => ?_, ⟨Or.inr hD, ?_⟩, hD⟩
    · by_cases z : a = 0 ∧ j = 9
      · exact Or.inl ⟨z.1, Or.inl z.2⟩
      · rw [up_ap, if_neg z]
        by_cases y : 30 ≤ a ∧ a < 44
        · exact Or.inr (Or.inl (by omega))
        · exact Or.inr (Or.inr (runM_t (by omega)))
    · unfold FatesOK
      rw [up_off (by omega), runM_t (by omega), show up (runM 30 8 (mN N B) (fN N B) m) 0 9 (nI 1) 58 = m 58 from funext fun j => by rw [up_row (by decide), runM_t (by omega)]]
      exact hc.2
  · rw [if_neg q]
    exact ⟨Kc_r, hc, hc.1.resolve_left q⟩
theorem d8 (z k : Nat) : z * 8 + k = 8 * z + k := by rw [Nat.mul_comm]
theorem CR_same {q : Nat} {a : ALoc} {r : Value} (hc : Ca N B m) (e : ∀ (f : Nat) (Rt : Option Value → AMem → Prop), T S (f + 9) q 0 a [] m Rt = Rt (some r) m) : CR S N B q a m r := ⟨m, Kc_r, hc, e⟩
def aOwes (N : Nat → Nat) (B : Nat → Nat → Nat) (d x : Int32) (row : Nat) : Int32 := if (nI 0 ≤ d ∧ d < nI 30) ∧ (nI 0 ≤ x ∧ x < nI (mN N B)) then RR N B (w0 N B) d.toNatClampNeg row x.toNatClampNeg else -2
theorem c_owes (h : Bs N B m) (hc : Ca N B m) {d x : Int32} : CR S N B 45 [some (.ref 0), some (.int d), some (.int x)] m (.int (aOwes N B d x 86)) := by
  have e := fun (f : Nat) (Rt : Option Value → AMem → Prop) => s_owes (S := S) (f := f + 3) (Rt := Rt) (Bs_TS h) (d := d) (x := x)
  have h8 := (Bs_m8 h).1
  unfold aOwes
  by_cases q : (nI 0 ≤ d ∧ d < nI 30) ∧ (nI 0 ≤ x ∧ x < nI (mN N B))
  · obtain ⟨r1, r2, r3⟩ := Ca_run h hc
    obtain ⟨y, hy, rfl⟩ := P_nI q.1 (by decide)
    obtain ⟨k, hk, rfl⟩ := P_nI q.2 (by omega)
    refine ⟨_, r1, r2, fun f Rt => (e f Rt).trans ?_⟩
    rw [if_pos q, if_pos q, nI_cl8 (by omega), nI_cl8 (by omega), d8, ((r3.2 y hy).1 k hk).1]
    rfl
  · rw [if_neg q]
    exact CR_same hc (fun f Rt => (e f Rt).trans (by rw [if_neg q]))
theorem c_purse (h : Bs N B m) (hc : Ca N B m) {d x : Int32} : CR S N B 48 [some (.ref 0), some (.int d), some (.int x)] m (.int (aOwes N B d x 87)) := by
  have e := fun (f : Nat) (Rt : Option Value → AMem → Prop) => s_purse (S := S) (f := f + 3) (Rt := Rt) (Bs_TS h) (d := d) (x := x)
  have h8 := (Bs_m8 h).1
  unfold aOwes
  by_cases q : (nI 0 ≤ d ∧ d < nI 30) ∧ (nI 0 ≤ x ∧ x < nI (mN N B))
  · obtain ⟨r1, r2, r3⟩ := Ca_run h hc
    obtain ⟨y, hy, rfl⟩ := P_nI q.1 (by decide)
    obtain ⟨k, hk, rfl⟩ := P_nI q.2 (by omega)
    refine ⟨_, r1, r2, fun f Rt => (e f Rt).trans ?_⟩
    rw [if_pos q, if_pos q, nI_cl8 (by omega), nI_cl8 (by omega), d8, ((r3.2 y hy).1 k hk).2.1]
    rfl
  · rw [if_neg q]
    exact CR_same hc (fun f Rt => (e f Rt).trans (by rw [if_neg q]))
theorem c_where (h : Bs N B m) (hc : Ca N B m) {d x : Int32} : CR S N B 49 [some (.ref 0), some (.int d), some (.int x)] m (.int (aOwes N B d x 88)) := by
  have e := fun (f : Nat) (Rt : Option Value → AMem → Prop) => s_where (S := S) (f := f + 3) (Rt := Rt) (Bs_TS h) (d := d) (x := x)
  have h8 := (Bs_m8 h).1
  unfold aOwes
  by_cases q : (nI 0 ≤ d ∧ d < nI 30) ∧ (nI 0 ≤ x ∧ x < nI (mN N B))
  · obtain ⟨r1, r2, r3⟩ := Ca_run h hc
    obtain ⟨y, hy, rfl⟩ := P_nI q.1 (by decide)
    obtain ⟨k, hk, rfl⟩ := P_nI q.2 (by omega)
    refine ⟨_, r1, r2, fun f Rt => (e f Rt).trans ?_⟩
    rw [if_pos q, if_pos q, nI_cl8 (by omega), nI_cl8 (by omega), d8, ((r3.2 y hy).1 k hk).2.2]
    rfl
  · rw [if_neg q]
    exact CR_same hc (fun f Rt => (e f Rt).trans (by rw [if_neg q]))
def aTakes (N : Nat → Nat) (B : Nat → Nat → Nat) (d x v : Int32) : Int32 := if (nI 0 ≤ d ∧ d < nI 30) ∧ (nI 0 ≤ x ∧ x < nI (iN N B)) then (if v = nI 0 then RR N B (w0 N B) d.toNatClampNeg 89 x.toNatClampNeg else if v = nI 1 then dueP (mN N B) x (RR N B (w0 N B) d.toNatClampNeg) else -2) else -2
theorem owed_due (hD : DaysOK N B M) {y : Nat} (hy : y < 30) (x : Int32) : owedM y x (mN N B) M = dueP (mN N B) x (RR N B (w0 N B) y) := by
  unfold owedM dueP
  refine it_congr (fun k hk s => ?_) (nI 0)
  have := (hD.2 y hy).1 k hk
  rw [d8, this.1, this.2.2]
  rfl
theorem c_takes (h : Bs N B m) (hc : Ca N B m) {d x v : Int32} : CR S N B 50 [some (.ref 0), some (.int d), some (.int x), some (.int v)] m (.int (aTakes N B d x v)) := by
  have e := fun (f : Nat) (Rt : Option Value → AMem → Prop) => s_takes (S := S) (f := f + 3) (Rt := Rt) (Bs_TS h) (d := d) (x := x) (w := v)
  have h8 := (Bs_m8 h).2.1
  unfold aTakes
  by_cases q : (nI 0 ≤ d ∧ d < nI 30) ∧ (nI 0 ≤ x ∧ x < nI (iN N B))
  · obtain ⟨r1, r2, r3⟩ := Ca_run h hc
    obtain ⟨y, hy, rfl⟩ := P_nI q.1 (by decide)
    obtain ⟨k, hk, rfl⟩ := P_nI q.2 (by omega)
    rw [if_pos q]
    simp only [if_pos q] at e
    rw [nI_cl8 (by omega), nI_cl8 (by omega)] at *
    by_cases v0 : v = nI 0
    · refine ⟨_, r1, r2, fun f Rt => (e f Rt).trans ?_⟩
      rw [if_pos v0, if_pos v0, d8, (r3.2 y hy).2 k (by omega)]
      rfl
    · by_cases v1 : v = nI 1
      · refine ⟨_, r1, r2, fun f Rt => (e f Rt).trans ?_⟩
        rw [if_neg v0, if_pos v1, if_neg v0, if_pos v1, owed_due r3 hy]
      · rw [if_neg v0, if_neg v1]
        exact CR_same hc (fun f Rt => (e f Rt).trans (by rw [if_neg v0, if_neg v1]))
  · rw [if_neg q]
    exact CR_same hc (fun f Rt => (e f Rt).trans (by rw [if_neg q]))
theorem pop_all : ∀ b, b < 256 → popM (nI b) = onesM (nI b) := by decide +kernel
theorem rs_set (hw : Wkn N B w) {z s : Nat} (hz : z < 90) (hs : s < 6) : ∃ b, b < 256 ∧ RR N B w z 92 s = nI b ∧ ∀ k, k < 8 → (b.testBit k = true ↔ (k < mN N B ∧ RR N B w z 88 k = nI (8 + s))) := (rs_ft hw hz).2.2.2 s hs
theorem rs_took (hw : Wkn N B w) {z h : Nat} (hz : z < 90) (hh : h < 8) : ∃ q, q < 1000000 ∧ RR N B w z 89 h = nI q := by
  obtain ⟨q, hq, e⟩ := (rs_ft hw hz).2.1 h hh
  exact ⟨q, by omega, e⟩
theorem sound_snd {d t : Nat} {s : Nat} (hC : CW t (mN N B) (iN N B) (fN N B) w M) : soundM d t s (mN N B) M = sndP (mN N B) w (M (d + 9) s) := by
  unfold soundM sndP
  refine it_congr (fun k hk c => ?_) (nI 0)
  rw [hC.2.2.1 1 k (by omega) (by omega) hk]
def aCrew (N : Nat → Nat) (B : Nat → Nat → Nat) (x v : Int32) : Int32 := if (nI 0 ≤ x ∧ x < nI (fN N B)) ∧ (nI 0 ≤ v ∧ v < nI 5) then crP N B x.toNatClampNeg v else -2
theorem c_crew (h : Bs N B m) (hc : Ca N B m) {x v : Int32} : CR S N B 51 [some (.ref 0), some (.int x), some (.int v), none] m (.int (aCrew N B x v)) := by
  have e := fun (f : Nat) (Rt : Option Value → AMem → Prop) => s_crew (S := S) (f := f + 3) (Rt := Rt) (Bs_TS h) (x := x) (w := v)
  have h6 := (Bs_m8 h).2.2
  unfold aCrew
  by_cases q : nI 0 ≤ x ∧ x < nI (fN N B)
  · obtain ⟨r1, r2, r3⟩ := Ca_run h hc
    have hB2 := Bs_c h r1
    obtain ⟨k, hk, rfl⟩ := P_nI q (by omega)
    refine ⟨_, r1, r2, fun f Rt => (e f Rt).trans ?_⟩
    rw [if_pos q]
    have hS := r3.1
    have hCW := hB2.2.2.1
    generalize monM (mN N B) (fN N B) m = M at *
    have hc8 : (nI k).toNatClampNeg = k := nI_cl8 (by omega)
    obtain ⟨s1, s2, s3⟩ := hS.2.2.1 k (by omega)
    have s1 : M 37 k = RR N B (w0 N B) 29 90 k := s1
    have s2 : M 38 k = RR N B (w0 N B) 29 91 k := s2
    have s3 : M 39 k = RR N B (w0 N B) 29 92 k := s3
    obtain ⟨b, hb, eb, _⟩ := rs_set (Bs_ok0 h) (z := 29) (by decide) (show k < 6 by omega)
    have e8 : M 16 k = w0 N B 8 k := hCW.2.2.2.2 8 k (by omega) (by omega) hk
    unfold crewM crP
    rw [hc8, s1, s2, s3, e8]
    have hsd : soundM 30 8 k (mN N B) M = sndP (mN N B) (w0 N B) (RR N B (w0 N B) 29 92 k) := by
      rw [sound_snd hCW]
      rw [show M (30 + 9) k = RR N B (w0 N B) 29 92 k from s3]
    rw [hsd, show popM (RR N B (w0 N B) 29 92 k) = onesM (RR N B (w0 N B) 29 92 k) by rw [eb]; exact pop_all b hb]
    rcases w5 v with rfl | rfl | rfl | rfl | rfl | ⟨g0, g1, g2, g3, g4, g5⟩
    · rw [if_pos rfl, if_pos ⟨q, by decide⟩, if_pos rfl]
    · rw [if_neg (by decide), if_pos rfl, if_pos ⟨q, by decide⟩, if_neg (by decide), if_pos rfl]
    · rw [if_neg (by decide), if_neg (by decide), if_pos rfl, if_pos ⟨q, by decide⟩, if_neg (by decide), if_neg (by decide), if_pos rfl]
    · rw [if_neg (by decide), if_neg (by decide), if_neg (by decide), if_pos rfl, if_pos ⟨q, by decide⟩, if_neg (by decide), if_neg (by decide), if_neg (by decide), if_pos rfl]
    · rw [if_neg (by decide), if_neg (by decide), if_neg (by decide), if_neg (by decide), if_pos rfl, if_pos ⟨q, by decide⟩, if_neg (by decide), if_neg (by decide), if_neg (by decide), if_neg (by decide)]
    · have hv : ¬ ((nI 0 ≤ nI k ∧ nI k < nI (fN N B)) ∧ (nI 0 ≤ v ∧ v < nI 5)) := fun z => by
        have z1 := z.2
        rw [fa2_le, fa2_lt, nI_toI (by omega), nI_toI (by omega)] at z1
        omega
      rw [if_neg g0, if_neg g1, if_neg g2, if_neg g3, if_neg g4, if_neg hv]
  · rw [if_neg (fun z => q z.1)]
    exact CR_same hc (fun f Rt => (e f Rt).trans (by rw [if_neg q]))
/-- two ways to find the most -/
theorem most_sim {p : Nat → Int32} {n : Nat} (hp : ∀ k, k < n → ∃ q, q < 2147483648 ∧ p k = nI q) : (it n (fun k (s : Option Nat × Int32) => if s.2 < p k then (some k, p k) else s) (none, -1)).1 = (it n (prF p) (none, nI 0)).1 ∧ (0 < n → (it n (fun k (s : Option Nat × Int32) => if s.2 < p k then (some k, p k) else s) (none, -1)).2 = (it n (prF p) (none, nI 0)).2 ∧ ∃ j, (it n (prF p) (none, nI 0)).1 = some j) := by
  have key := it_sim (fun k (s : Option Nat × Int32) => if s.2 < p k then (some k, p k) else s) (prF p) (fun i a b => (i = 0 → a = (none, -1) ∧ b = (none, nI 0)) ∧ (0 < i → a = b ∧ ∃ j, b.1 = some j)) n (fun k hk a b hR => by
    refine ⟨fun z => by omega, fun _ => ?_⟩
    by_cases z : k = 0
    · obtain ⟨e1, e2⟩ := hR.1 z
      rw [e1, e2]
      obtain ⟨q, hq, e⟩ := hp k hk
      have hlt : (-1 : Int32) < p k := by
        rw [e, fa2_lt, nI_toI (by omega), show (-1 : Int32).toInt = -1 by decide]
        omega
      unfold prF
      dsimp only
      rw [if_pos hlt]
      exact ⟨rfl, k, rfl⟩
    · obtain ⟨e1, j, ej⟩ := hR.2 (by omega)
      rw [e1]
      obtain ⟨b1, b2⟩ := b
      dsimp only at ej
      subst ej
      unfold prF
      dsimp only
      split
      · exact ⟨rfl, k, rfl⟩
      · exact ⟨rfl, j, rfl⟩) (none, -1) (none, nI 0) ⟨fun _ => ⟨rfl, rfl⟩, fun z => by omega⟩ n (Nat.le_refl _)
  by_cases z : n = 0
  · subst z
    exact ⟨rfl, fun y => by omega⟩
  · obtain ⟨e, j, ej⟩ := key.2 (by omega)
    exact ⟨by rw [e], fun _ => ⟨by rw [e], j, ej⟩⟩
def aRich (N : Nat → Nat) (B : Nat → Nat → Nat) (d : Int32) : Int32 := if nI 0 ≤ d ∧ d < nI 30 then optI (ricP (iN N B) (RR N B (w0 N B) d.toNatClampNeg)) else -2
theorem ric_pr {R : AMem} : ∀ n, ricP n R = (it n (prF (fun k => R 89 k)) (none, nI 0)).1 := by
  intro n
  have key := it_sim (ricF R) (prF (fun k => R 89 k)) (fun _ a b => a = b.1 ∧ ∀ j, b.1 = some j → b.2 = R 89 j) n (fun k hk a b hR => by
    obtain ⟨h1, h2⟩ := hR
    subst h1
    obtain ⟨b1, b2⟩ := b
    unfold ricF prF
    cases b1 with
    | none => exact ⟨rfl, fun j hj => by cases hj; rfl⟩
    | some i =>
      have := h2 i rfl
      dsimp only at this ⊢
      rw [this]
      split
      · exact ⟨rfl, fun j hj => by cases hj; rfl⟩
      · exact ⟨rfl, fun j hj => by cases hj; rfl⟩) none (none, nI 0) ⟨rfl, fun j hj => by cases hj⟩ n (Nat.le_refl _)
  exact key.1
theorem c_richest (h : Bs N B m) (hc : Ca N B m) {d : Int32} : CR S N B 52 [some (.ref 0), some (.int d), none, none, none, none] m (.int (aRich N B d)) := by
  have e := fun (f : Nat) (Rt : Option Value → AMem → Prop) => s_richest (S := S) (f := f + 3) (Rt := Rt) (Bs_TS h) (d := d)
  have h8 := (Bs_m8 h).2.1
  unfold aRich
  by_cases q : nI 0 ≤ d ∧ d < nI 30
  · obtain ⟨r1, r2, r3⟩ := Ca_run h hc
    obtain ⟨y, hy, rfl⟩ := P_nI q (by decide)
    refine ⟨_, r1, r2, fun f Rt => (e f Rt).trans ?_⟩
    rw [if_pos q, if_pos q, nI_cl8 (by omega), ric_pr]
    have hg : ∀ s : Option Nat × Int32, it (iN N B) (fun k (s : Option Nat × Int32) => if s.2 < monM (mN N B) (fN N B) m 43 (y * 8 + k) then (some k, monM (mN N B) (fN N B) m 43 (y * 8 + k)) else s) s = it (iN N B) (fun k (s : Option Nat × Int32) => if s.2 < RR N B (w0 N B) y 89 k then (some k, RR N B (w0 N B) y 89 k) else s) s := fun s => it_congr (fun k hk s => by
      have e43 : monM (mN N B) (fN N B) m 43 (y * 8 + k) = RR N B (w0 N B) y 89 k := by
        rw [d8]
        exact (r3.2 y hy).2 k (by omega)
      rw [e43]) s
    unfold richF
    rw [hg, (most_sim (p := fun k => RR N B (w0 N B) y 89 k) (n := iN N B) (fun k hk => by
      obtain ⟨q, hq, e⟩ := rs_took (Bs_ok0 h) (z := y) (by omega) (show k < 8 by omega)
      exact ⟨q, by omega, e⟩)).1]
  · rw [if_neg q]
    exact CR_same hc (fun f Rt => (e f Rt).trans (by rw [if_neg q]))
theorem c_last (h : Bs N B m) (hc : Ca N B m) : CR S N B 53 [some (.ref 0)] m (.int (RR N B (w0 N B) 29 73 24)) := by
  obtain ⟨r1, r2, r3⟩ := Ca_run h hc
  refine ⟨_, r1, r2, fun f Rt => (s_last (S := S) (f := f + 3) (Rt := Rt) (Bs_TS h)).trans ?_⟩
  rw [show monM (mN N B) (fN N B) m 30 14 = RR N B (w0 N B) 29 73 24 from r3.1.2.2.2.1]
end CSK
