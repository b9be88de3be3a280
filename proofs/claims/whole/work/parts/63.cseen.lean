section CSE
variable {S : AScr} {m m2 m3 M X : AMem} {w : AMem} {N : Nat → Nat} {B : Nat → Nat → Nat}
def wpN (fleet c p : Nat) : Nat := it fleet (fun s w => if s < p then w * (16 - c) else w * c) 1
theorem wg_wp : ∀ fl, fl < 7 → ∀ c, c < 17 → ∀ a, a < 64 → a < 2 ^ fl → wgN fl c a = wpN fl c (cardN a) := by decide +kernel
theorem pop_card : ∀ b, b < 256 → popM (nI b) = nI (cardN b) ∧ cardN b ≤ 8 := by decide +kernel
theorem weight_e {c p : Nat} (hc : c ≤ 16) (hp : p ≤ 8) : ∀ n, n ≤ 6 → weightL n (nI c) (nI p) = lN (wpN n c p) := by
  intro n
  induction n with
  | zero => intro _; rfl
  | succ n ih =>
    intro hn
    have ih := ih (by omega)
    unfold weightL wpN at ih ⊢
    rw [it_s, it_s, ih]
    have hl : (nI n < nI p) = (n < p) := nI_lt8 (by omega) (by omega)
    by_cases q : n < p
    · rw [if_pos (hl.mpr q), if_pos q, nI_sub hc, nI_l (by omega), lN_mul]
    · rw [if_neg (fun z => q (hl.mp z)), if_neg q, nI_l (by omega), lN_mul]
theorem lN_2 {a : Nat} (ha : a < 2 ^ 31) : lN a / 2 = lN (a / 2) := lN_div ha (by decide) (by decide)
theorem half_e : ∀ (r e a : Nat), e ≤ r → e ≤ 30 → a < 2 ^ 31 → halfR r (lN a) (lN (2 ^ e)) = (lN (a / Nat.gcd a (2 ^ e)), lN (2 ^ e / Nat.gcd a (2 ^ e))) := by
  intro r
  induction r with
  | zero =>
    intro e a he _ _
    have : e = 0 := by omega
    subst this
    show (lN a, lN (2 ^ 0)) = _
    rw [Nat.pow_zero, Nat.gcd_one_right, Nat.div_one]
  | succ r ih =>
    intro e a he he30 ha
    unfold halfR
    have h2e : 2 ^ e ≤ 2 ^ 30 := Nat.pow_le_pow_right (by decide) he30
    have h30 : (2 : Nat) ^ 30 = 1073741824 := by decide
    have h31 : (2 : Nat) ^ 31 = 2147483648 := by decide
    have erem : lN a - lN a / 2 * 2 = lN (a % 2) := lN_rem ha (by decide) (by decide)
    have ecmp : (lg_cmp (lN (a % 2)) (lN 0) = nI 0) = (a % 2 = 0) := cmp_0 (by omega)
    have ele : (lg_cmp (lN (2 ^ e)) (lN 1) ≤ nI 0) = (2 ^ e ≤ 1) := by
      have h := lg_cmp_le (lN (2 ^ e)) (lN 1)
      rw [lN_le (by omega) (by decide)] at h
      exact propext h
    rw [erem]
    simp only [ecmp, ele]
    by_cases q : a % 2 = 0
    · rw [if_pos q]
      by_cases z : e = 0
      · subst z
        rw [if_pos (by decide), Nat.pow_zero, Nat.gcd_one_right, Nat.div_one]
      · have hlt : ¬ 2 ^ e ≤ 1 := by
          have : 2 ^ 1 ≤ 2 ^ e := Nat.pow_le_pow_right (by decide) (by omega)
          omega
        rw [if_neg hlt, lN_2 ha, lN_2 (by omega)]
        obtain ⟨e2, rfl⟩ : ∃ e2, e = e2 + 1 := ⟨e - 1, by omega⟩
        have hp : 2 ^ (e2 + 1) = 2 * 2 ^ e2 := by rw [Nat.pow_succ, Nat.mul_comm]
        have ha2 : a = 2 * (a / 2) := by omega
        rw [show 2 ^ (e2 + 1) / 2 = 2 ^ e2 by omega, ih e2 (a / 2) (by omega) (by omega) (by omega)]
        have hg : Nat.gcd a (2 ^ (e2 + 1)) = 2 * Nat.gcd (a / 2) (2 ^ e2) := by
          rw [hp]
          conv => lhs; rw [ha2]
          exact Nat.gcd_mul_left 2 (a / 2) (2 ^ e2)
        have d1 : a / Nat.gcd a (2 ^ (e2 + 1)) = a / 2 / Nat.gcd (a / 2) (2 ^ e2) := by rw [hg, Nat.div_div_eq_div_mul]
        have d2 : 2 ^ (e2 + 1) / Nat.gcd a (2 ^ (e2 + 1)) = 2 ^ e2 / Nat.gcd (a / 2) (2 ^ e2) := by
          rw [hg, ← Nat.div_div_eq_div_mul, show 2 ^ (e2 + 1) / 2 = 2 ^ e2 by omega]
        rw [d1, d2]
    · rw [if_neg q]
      have hc : Nat.gcd a (2 ^ e) = 1 := by
        have h1 : Nat.gcd a 2 = 1 := by
          rw [Nat.gcd_comm, Nat.gcd_rec, show a % 2 = 1 by omega]
          decide
        exact Nat.Coprime.pow_right e h1
      rw [hc, Nat.div_one, Nat.div_one]
def aStorm (N : Nat → Nat) (B : Nat → Nat → Nat) (c x d v : Int32) : Int64 := if (¬ c < nI 0 ∧ ¬ nI 16 < c) ∧ (nI 0 ≤ x ∧ x < nI (mN N B)) ∧ (nI 0 ≤ d ∧ d < nI 30) ∧ (nI 0 ≤ v ∧ v < nI 2) then stA N B c.toNatClampNeg x.toNatClampNeg d.toNatClampNeg v else -9223372036854775806
theorem P16 {c : Int32} (h : ¬ c < nI 0 ∧ ¬ nI 16 < c) : ∃ k, k ≤ 16 ∧ c = nI k := by
  have h2 : (nI 0 ≤ c ∧ c < nI 8) ∨ ¬ (nI 0 ≤ c ∧ c < nI 8) := Classical.em _
  have h3 : nI 0 ≤ c ∧ c < nI 17 := by
    rw [fa2_lt, fa2_lt, nI_toI (by omega), nI_toI (by omega)] at h
    rw [fa2_le, fa2_lt, nI_toI (by omega), nI_toI (by omega)]
    omega
  obtain ⟨k, hk, e⟩ := P_nI h3 (by decide)
  exact ⟨k, by omega, e⟩
theorem c_storm (h : Bs N B m) (hc : Ca N B m) {c x d v : Int32} : CR S N B 70 [some (.ref 0), some (.int c), some (.int x), some (.int d), some (.int v), none, none, none, none, none, none] m (.long (aStorm N B c x d v)) := by
  have e := fun (f : Nat) (Rt : Option Value → AMem → Prop) => s_storm (S := S) (f := f + 3) (Rt := Rt) (Bs_TS h) (c := c) (x := x) (d := d) (w := v)
  obtain ⟨h8, h8i, h6⟩ := Bs_m8 h
  unfold aStorm
  by_cases q : (¬ c < nI 0 ∧ ¬ nI 16 < c) ∧ (nI 0 ≤ x ∧ x < nI (mN N B)) ∧ (nI 0 ≤ d ∧ d < nI 30) ∧ (nI 0 ≤ v ∧ v < nI 2)
  · obtain ⟨cc, hcc, rfl⟩ := P16 q.1
    obtain ⟨k, hk, rfl⟩ := P_nI q.2.1 (by omega)
    obtain ⟨y, hy, rfl⟩ := P_nI q.2.2.1 (by omega)
    obtain ⟨r1, r2, r3⟩ := fate_ok h hc
    refine ⟨_, r1, r2, fun f Rt => (e f Rt).trans ?_⟩
    rw [if_pos q, if_pos q, nI_cl8 (by omega), nI_cl8 (by omega), nI_cl8 (by omega)]
    generalize fateM (mN N B) (fN N B) m = Y at *
    have p64 := p2_le h6
    have hA : stormA (fN N B) k (nI cc) (nI y) Y = lN (stN N B cc k y (2 ^ fN N B)) := by
      have key := it_sim (fun i (a : Int64) => if ¬ Y 58 (i * 8 + k) = -1 ∧ ¬ nI y < Y 58 (i * 8 + k) then a + weightL (fN N B) (nI cc) (popM (nI i)) else a) (fun a (s : Nat) => if RR N B (wA N B (nI a)) y 93 k = -1 then s else s + wgN (fN N B) cc a) (fun _ a s => a = lN s) (2 ^ fN N B) (fun i hi a s ha => by
        subst ha
        rw [r3 i hi k hk]
        have hbd := by_day (z := y) (Bs_ok h (a := i) (by omega)) hk hy
        have hbd : (¬ rs (mN N B) (iN N B) (fN N B) (wA N B (nI i)) 29 93 k = -1 ∧ ¬ nI y < rs (mN N B) (iN N B) (fN N B) (wA N B (nI i)) 29 93 k) = ¬ RR N B (wA N B (nI i)) y 93 k = -1 := hbd
        obtain ⟨pc, pc8⟩ := pop_card i (by omega)
        by_cases z : RR N B (wA N B (nI i)) y 93 k = -1
        · rw [if_pos z, if_neg (fun u => (hbd.mp u) z)]
        · rw [if_neg z, if_pos (hbd.mpr z), pc, weight_e hcc pc8 _ h6, lN_add, wg_wp _ (by omega) _ (by omega) i (by omega) hi]) (lN 0) 0 rfl _ (Nat.le_refl _)
      exact key
    have hst := st_le (N := N) (B := B) (x := k) (day := y) hcc (2 ^ fN N B)
    have h16 : 16 ^ fN N B ≤ 16 ^ 6 := Nat.pow_le_pow_right (by decide) h6
    have h16n : (16 : Nat) ^ 6 = 16777216 := by decide
    have hb2 : 2 ^ fN N B * 16 ^ fN N B ≤ 64 * 16777216 := Nat.mul_le_mul p64 (by omega)
    have hB : stormB (fN N B) = lN (2 ^ (4 * fN N B)) := stormB_e h6
    rw [hA, hB, half_e 24 (4 * fN N B) _ (by omega) (by omega) (by omega)]
    unfold stormV stA
    rfl
  · rw [if_neg q]
    exact CR_same hc (fun f Rt => (e f Rt).trans (by rw [if_neg q]))
/-- what was seen comes out so -/
theorem out_seen (hg : Sg (N 4) (B 3) (B 4) (B 5) M) (hr : ∀ z, z < 30 → ∀ h, h < 8 → M 57 (8 * z + h) = RR N B w z 89 h) : (outB (iN N B) (B 3) (B 4) (B 5) M (N 4) 0 = true) = (seenV N B w = true) := by
  rw [seenV_P (fun k hk => (hg.2.2 k hk).2.1)]
  have key : ∀ r i, i + r = N 4 → ((outB (iN N B) (B 3) (B 4) (B 5) M r i = true) ↔ ∀ k, i ≤ k → k < N 4 → B 4 k < iN N B ∧ RR N B w (B 3 k) 89 (B 4 k) = nI (B 5 k)) := by
    intro r
    induction r with
    | zero => intro i hi; exact ⟨fun _ k h1 h2 => by omega, fun _ => rfl⟩
    | succ r ih =>
      intro i hi
      show ((decide (B 4 i < iN N B ∧ M 57 (B 3 i * 8 + B 4 i) = nI (B 5 i)) && outB (iN N B) (B 3) (B 4) (B 5) M r (i + 1)) = true) ↔ _
      obtain ⟨x1, x2, x3, x4, x5, x6⟩ := hg.2.2 i (by omega)
      rw [Bool.and_eq_true, ih (i + 1) (by omega), decide_eq_true_iff, d8, hr _ x2 _ x4]
      refine ⟨fun h k h1 h2 => ?_, fun h => ⟨h i (Nat.le_refl _) (by omega), fun k h1 h2 => h k (by omega) h2⟩⟩
      by_cases z : k = i
      · rw [z]; exact h.1
      · exact h.2 k (by omega) h2
  have := key (N 4) 0 (by omega)
  exact propext (this.trans ⟨fun h k hk => h k (Nat.zero_le _) hk, fun h k _ hk => h k hk⟩)
theorem Sg_o (h : Bs N B m) (hk : Ko m X) : Sg (N 4) (B 3) (B 4) (B 5) X := Sg_far h.2.2.2.1 (fun a j h1 h2 => hk a j (by omega))
theorem fit_ok (h : Bs N B m) {day : Nat} (hd : day < 30) : Ko m (fitE (mN N B) (iN N B) (fN N B) day (N 4) (B 3) (B 4) (B 5) m).1 ∧ (fitE (mN N B) (iN N B) (fN N B) day (N 4) (B 3) (B 4) (B 5) m).2 = nevP N B ∧ ∀ s, s < fN N B → ∀ h, h < 8 → (fitE (mN N B) (iN N B) (fN N B) day (N 4) (B 3) (B 4) (B 5) m).1 59 (s * 8 + h) = tkV N B day s h := by
  have h6 := (Bs_m8 h).2.2
  have key := it_sim (fitF (mN N B) (iN N B) (fN N B) day (N 4) (B 3) (B 4) (B 5)) (nevF N B) (fun k s b => (∃ x, CWn N B (wA N B x) s.1) ∧ Ko m s.1 ∧ s.2 = b ∧ ∀ i, i < k → ∀ h, h < 8 → s.1 59 (i * 8 + h) = tkV N B day i h) (fN N B) (fun k hk s b ⟨⟨x, h1⟩, h2, h3, h4⟩ => by
    have h64 := p2_lt (a := k) (by omega)
    have hW2 : Wkn N B (wA N B (nI (2 ^ k))) := Bs_ok h h64
    have hC2 : CWn N B (wA N B (nI (2 ^ k))) (up s.1 19 4 (nI (2 ^ k))) := CWn_abs h1
    obtain ⟨o1, o2, o3⟩ := or_eq hW2 hC2
    have ko : Ko m (runM 44 19 (mN N B) (fN N B) (up s.1 19 4 (nI (2 ^ k)))) := Ko_t h2 (Ko_t (Ko_up (by omega)) Ko_run)
    have r59 : ∀ j, runM 44 19 (mN N B) (fN N B) (up s.1 19 4 (nI (2 ^ k))) 59 j = s.1 59 j := fun j => by rw [runM_t (by omega), up_row (by decide)]
    unfold fitF nevF
    dsimp only
    generalize runM 44 19 (mN N B) (fN N B) (up s.1 19 4 (nI (2 ^ k))) = Y at *
    have kA : ∀ g, Ko m (upA Y 59 g) := fun g => Ko_t ko (fun a j ha => by rw [upA_ne (by omega)])
    have ho : ∀ g, (outB (iN N B) (B 3) (B 4) (B 5) (upA Y 59 g) (N 4) 0 = true) = (seenV N B (wA N B (nI (2 ^ k))) = true) := fun g => out_seen (Sg_o h (kA g)) (fun z hz h hh => by rw [upA_ne (by decide)]; exact o3 z hz h hh)
    refine ⟨⟨nI (2 ^ k), CW_keep o2 (fun a j b1 b2 => by rw [upA_ne (by omega)])⟩, kA _, ?_, fun i hi h hh => ?_⟩
    · subst h3
      simp only [ho]
    · rw [upA_at]
      by_cases z : i = k
      · subst z
        unfold va_cpy
        rw [if_pos (by omega), show day * 8 + (i * 8 + h - i * 8) = 8 * day + h by omega]
        exact o3 day hd h hh
      · unfold va_cpy
        rw [if_neg (by omega), r59]
        exact h4 i (by omega) h hh) (becomeM m, nI 0) (nI 0) ⟨⟨nI 0, bec_n h⟩, Ko_bec, rfl, fun i hi => by omega⟩ _ (Nat.le_refl _)
  exact ⟨key.2.1, key.2.2.1, key.2.2.2⟩
theorem c_never (h : Bs N B m) (hc : Ca N B m) : CR S N B 65 [some (.ref 0)] m (.int (nevP N B)) := by
  obtain ⟨k1, k2, k3⟩ := fit_ok h (day := 0) (by decide)
  refine Ko_CR hc k1 (fun f Rt => (s_never (S := S) (f := f + 3) (Rt := Rt) (Bs_TS h) h.2.2.2.1).trans ?_)
  rw [k2]
def aAsk (N : Nat → Nat) (B : Nat → Nat → Nat) (d : Int32) : Int32 := if nI 0 ≤ d ∧ d < nI 30 then optI (akP (nevP N B) (iN N B) (fN N B) (tkV N B d.toNatClampNeg)).1 else -2
theorem c_ask (h : Bs N B m) (hc : Ca N B m) {d : Int32} : CR S N B 68 [some (.ref 0), some (.int d), none, none, none, none, none] m (.int (aAsk N B d)) := by
  have e := fun (f : Nat) (Rt : Option Value → AMem → Prop) => s_ask (S := S) (f := f + 3) (Rt := Rt) (Bs_TS h) h.2.2.2.1 (d := d)
  obtain ⟨h8, h8i, h6⟩ := Bs_m8 h
  unfold aAsk
  by_cases q : nI 0 ≤ d ∧ d < nI 30
  · obtain ⟨y, hy, rfl⟩ := P_nI q (by decide)
    obtain ⟨k1, k2, k3⟩ := fit_ok h hy
    refine Ko_CR hc k1 (fun f Rt => ?_)
    have e := e f Rt
    rw [if_pos q, nI_cl8 (by omega)] at e
    refine e.trans ?_
    rw [if_pos q, nI_cl8 (by omega), k2]
    generalize (fitE (mN N B) (iN N B) (fN N B) y (N 4) (B 3) (B 4) (B 5) m).1 = Y at *
    generalize nevP N B = bits
    have hal : ∀ x, x < 8 → ∀ a, a < fN N B → alikeN bits x (fN N B) Y a = alP bits (fN N B) (tkV N B y) x a := fun x hx a ha => it_congr (fun b hb n => by rw [k3 a ha x hx, k3 b hb x hx]) 0
    have hgr : ∀ x, x < 8 → greatN bits x (fN N B) Y = grP bits (fN N B) (tkV N B y) x := fun x hx => it_congr (fun a ha g => by rw [hal x hx a ha]) 0
    have key := it_sim (askF bits (fN N B) Y) (akF bits (fN N B) (tkV N B y)) (fun i a b => (i = 0 → a = (none, 7) ∧ b = (none, 0)) ∧ (0 < i → a = b ∧ ∃ j, b.1 = some j)) (iN N B) (fun k hk a b hR => by
      refine ⟨fun z => by omega, fun _ => ?_⟩
      have hg := hgr k (by omega)
      have hgl := gr_le (bits := bits) (fleet := fN N B) (h := k) (V := tkV N B y)
      by_cases z : k = 0
      · obtain ⟨e1, e2⟩ := hR.1 z
        rw [e1, e2]
        unfold askF akF
        rw [hg]
        dsimp only
        rw [if_pos (by omega)]
        exact ⟨rfl, k, rfl⟩
      · obtain ⟨e1, j, ej⟩ := hR.2 (by omega)
        rw [e1]
        obtain ⟨b1, b2⟩ := b
        dsimp only at ej
        subst ej
        unfold askF akF
        rw [hg]
        dsimp only
        split
        · exact ⟨rfl, k, rfl⟩
        · exact ⟨rfl, j, rfl⟩) (none, 7) (none, 0) ⟨fun _ => ⟨rfl, rfl⟩, fun z => by omega⟩ _ (Nat.le_refl _)
    have hf : (askV bits (iN N B) (fN N B) Y).1 = (akP bits (iN N B) (fN N B) (tkV N B y)).1 := by
      unfold askV akP
      by_cases z : iN N B = 0
      · rw [z]; rfl
      · rw [(key.2 (by omega)).1]
    rw [hf]
  · rw [if_neg q]
    exact CR_same hc (fun f Rt => (e f Rt).trans (by rw [if_neg q]))
def aWas (N : Nat → Nat) (B : Nat → Nat → Nat) (x v : Int32) : Int32 := if (nI 0 ≤ x ∧ x < nI (mN N B)) ∧ (nI 0 ≤ v ∧ v < nI 2) then wasQ N B x.toNatClampNeg v else -2
theorem was_ok (h : Bs N B m) {row x n : Nat} (hr : (row = 1 ∧ n = 4) ∨ (row = 2 ∧ n = 10)) : Ko m (wasE (mN N B) (iN N B) (fN N B) (19 + row) n x (N 4) (B 3) (B 4) (B 5) m).1 ∧ (wasE (mN N B) (iN N B) (fN N B) (19 + row) n x (N 4) (B 3) (B 4) (B 5) m).2 = it n (wasP N B row x) (nI 0) := by
  have hw := Bs_ok0 h
  have key := it_sim (wasF (mN N B) (iN N B) (fN N B) (19 + row) x (N 4) (B 3) (B 4) (B 5)) (wasP N B row x) (fun _ s b => (∃ y, CWn N B (up (w0 N B) row x y) s.1) ∧ Ko m s.1 ∧ s.2 = b) n (fun k hk s b ⟨⟨y, h1⟩, h2, h3⟩ => by
    have hW2 : Wkn N B (up (w0 N B) row x (nI k)) := Wok_up hw (by omega) ⟨by omega, by omega, by omega⟩
    have hC2 : CWn N B (up (w0 N B) row x (nI k)) (up s.1 (19 + row) x (nI k)) := CWn_up h1 (by omega)
    obtain ⟨o1, o2, o3⟩ := or_eq hW2 hC2
    have ko : Ko m (runM 44 19 (mN N B) (fN N B) (up s.1 (19 + row) x (nI k))) := Ko_t h2 (Ko_t (Ko_up (by omega)) Ko_run)
    unfold wasF wasP
    dsimp only
    generalize runM 44 19 (mN N B) (fN N B) (up s.1 (19 + row) x (nI k)) = Y at *
    have ho := out_seen (Sg_o h ko) o3
    subst h3
    simp only [ho]
    exact ⟨⟨_, o2⟩, ko, trivial⟩) (becomeM m, nI 0) (nI 0) ⟨⟨w0 N B row x, by rw [up_same]; exact bec_n h⟩, Ko_bec, rfl⟩ _ (Nat.le_refl _)
  exact ⟨key.2.1, key.2.2⟩
theorem c_was (h : Bs N B m) (hc : Ca N B m) {x v : Int32} : CR S N B 67 [some (.ref 0), some (.int x), some (.int v), none, none, none, none] m (.int (aWas N B x v)) := by
  have e := fun (f : Nat) (Rt : Option Value → AMem → Prop) => s_was (S := S) (f := f + 3) (Rt := Rt) (Bs_TS h) h.2.2.2.1 (x := x) (w := v)
  have h8 := (Bs_m8 h).1
  unfold aWas
  by_cases q : (nI 0 ≤ x ∧ x < nI (mN N B)) ∧ (nI 0 ≤ v ∧ v < nI 2)
  · rw [if_pos q]
    unfold wasQ
    by_cases v0 : v = nI 0
    · obtain ⟨k1, k2⟩ := was_ok h (row := 1) (x := x.toNatClampNeg) (n := 4) (Or.inl ⟨rfl, rfl⟩)
      refine Ko_CR hc k1 (fun f Rt => (e f Rt).trans ?_)
      rw [if_pos q, if_pos v0, if_pos v0, ← k2]
    · obtain ⟨k1, k2⟩ := was_ok h (row := 2) (x := x.toNatClampNeg) (n := 10) (Or.inr ⟨rfl, rfl⟩)
      refine Ko_CR hc k1 (fun f Rt => (e f Rt).trans ?_)
      rw [if_pos q, if_neg v0, if_neg v0, ← k2]
  · rw [if_neg q]
    exact CR_same hc (fun f Rt => (e f Rt).trans (by rw [if_neg q]))
end CSE
