section CSM
variable {S : AScr} {m m2 m3 M X R : AMem} {w : AMem} {N : Nat → Nat} {B : Nat → Nat → Nat}
def sumN (n : Nat) (g : Nat → Nat) : Nat := it n (fun k c => c + g k) 0
theorem sum_s {n : Nat} {g : Nat → Nat} : sumN (n + 1) g = sumN n g + g n := rfl
theorem sum_congr {n : Nat} {g g2 : Nat → Nat} (h : ∀ k, k < n → g k = g2 k) : sumN n g = sumN n g2 := it_congr (fun k hk c => by rw [h k hk]) 0
theorem sum_add {g g2 : Nat → Nat} : ∀ n, sumN n (fun k => g k + g2 k) = sumN n g + sumN n g2 := by
  intro n
  induction n with
  | zero => rfl
  | succ n ih => rw [sum_s, sum_s, sum_s, ih]; omega
theorem sum_0 : ∀ n, sumN n (fun _ => 0) = 0 := by
  intro n
  induction n with
  | zero => rfl
  | succ n ih => rw [sum_s, ih]
theorem sum_swap {f : Nat → Nat → Nat} {b : Nat} : ∀ a, sumN a (fun s => sumN b (f s)) = sumN b (fun k => sumN a (fun s => f s k)) := by
  intro a
  induction a with
  | zero => exact (sum_0 b).symm
  | succ a ih =>
    rw [sum_s, ih, ← sum_add]
    exact sum_congr (fun k _ => rfl)
theorem sum_cut {g : Nat → Nat} {n : Nat} : ∀ r, (∀ k, n ≤ k → g k = 0) → sumN (n + r) g = sumN n g := by
  intro r
  induction r with
  | zero => intro _; rfl
  | succ r ih =>
    intro h
    show sumN (n + r) g + g (n + r) = _
    rw [ih h, h (n + r) (by omega)]
    rfl
def oneF (men : Nat) (R : AMem) (s k : Nat) : Nat := if k < men ∧ R 88 k = nI (8 + s) then 1 else 0
theorem one_sum {men s0 k : Nat} (hk : k < men) (hs : s0 < 6) (e : R 88 k = nI (8 + s0)) : sumN 6 (fun s => oneF men R s k) = 1 := by
  have h : ∀ s, s < 6 → oneF men R s k = if s0 = s then 1 else 0 := fun s hs2 => by
    unfold oneF
    rw [e]
    have he : (nI (8 + s0) = nI (8 + s)) = (8 + s0 = 8 + s) := nI_eq8 (by omega) (by omega)
    by_cases z : s0 = s
    · rw [if_pos ⟨hk, by rw [z]⟩, if_pos z]
    · rw [if_neg (fun y => z (by have := he.mp y.2; omega)), if_neg z]
  rw [sum_congr h]
  rcases (show s0 = 0 ∨ s0 = 1 ∨ s0 = 2 ∨ s0 = 3 ∨ s0 = 4 ∨ s0 = 5 by omega) with rfl | rfl | rfl | rfl | rfl | rfl <;> rfl
theorem sailed_sai {d : Nat} (hw : Wkn N B w) (hS : Sim d (mN N B) (iN N B) M (RR N B w 29)) : sailedM d M = saiP (mN N B) (RR N B w 29) := by
  have hft := rs_ft hw (z := 29) (by decide)
  have h8 : mN N B ≤ 8 := hw.1.1
  have e1 : sailedM d M = nI (sumN 6 (fun s => sumN 8 (oneF (mN N B) (RR N B w 29) s))) := by
    have key := it_sim (fun k (c : Int32) => c + popM (M (d + 9) k)) (fun s c => c + sumN 8 (oneF (mN N B) (RR N B w 29) s)) (fun _ a b => a = nI b) 6 (fun s hs a b hab => by
      subst hab
      obtain ⟨b2, hb2, eb, hbit⟩ := rs_set hw (z := 29) (by decide) hs
      rw [show M (d + 9) s = RR N B w 29 92 s from (hS.2.2.1 s hs).2.2, eb, (pop_card b2 hb2).1, nI_add]
      have hcard : cardN b2 = sumN 8 (oneF (mN N B) (RR N B w 29) s) := it_congr (fun k hk c => by
        unfold oneF
        by_cases z : b2.testBit k = true
        · rw [if_pos z, if_pos ((hbit k hk).mp z)]
        · rw [if_neg z, if_neg (fun y => z ((hbit k hk).mpr y))]
          rfl) 0
      rw [hcard]) (nI 0) 0 rfl 6 (Nat.le_refl _)
    exact key
  rw [e1, sum_swap]
  have hout : ∀ k, mN N B ≤ k → sumN 6 (fun s => oneF (mN N B) (RR N B w 29) s k) = 0 := fun k hk => by
    rw [sum_congr (g2 := fun _ => 0) (fun s _ => by unfold oneF; rw [if_neg (fun z => by omega)])]
    exact sum_0 6
  have e8 := sum_cut (n := mN N B) (8 - mN N B) hout
  rw [show mN N B + (8 - mN N B) = 8 by omega] at e8
  rw [e8]
  unfold saiP
  have key := it_sim (fun k (c : Int32) => if RR N B w 29 93 k = -1 then c else c + nI 1) (fun k c => c + sumN 6 (fun s => oneF (mN N B) (RR N B w 29) s k)) (fun _ a b => a = nI b) (mN N B) (fun k hk a b hab => by
    subst hab
    rcases hft.1 k hk with ⟨z1, z2⟩ | ⟨dd, s, z1, z2, z3, z4⟩
    · have z1 : RR N B w 29 93 k = -1 := z1
      rw [if_pos z1, sum_congr (g2 := fun _ => 0) (fun s hs => by unfold oneF; rw [if_neg (fun z => z2 ⟨s, hs, z.2⟩)]), sum_0]
      rfl
    · have hn : ¬ RR N B w 29 93 k = -1 := fun y => by
        have z3 : RR N B w 29 93 k = nI dd := z3
        rw [z3, nI_ne1 (by omega)] at y
        exact y
      rw [if_neg hn, one_sum (R := RR N B w 29) hk z2 z4, nI_add]) (nI 0) 0 rfl _ (Nat.le_refl _)
  exact key.symm
def aPort (N : Nat → Nat) (B : Nat → Nat → Nat) (seed x : Int32) : Int32 := if x = -1 ∨ (nI 0 ≤ x ∧ x < nI (iN N B)) then poA N B seed x else -2
theorem port_ok (h : Bs N B m) {seed : Int32} : Ko m (portE (mN N B) (iN N B) (fN N B) seed m) ∧ Sim 44 (mN N B) (iN N B) (portE (mN N B) (iN N B) (fN N B) seed m) (RR N B (poW N B seed) 29) := by
  have hP := (poW_ok h seed).1
  have hpre : ∃ X, portE (mN N B) (iN N B) (fN N B) seed m = runM 44 19 (mN N B) (fN N B) X ∧ Ko m X ∧ CWn N B (poW N B seed) X := by
    unfold portE poW
    by_cases q : iN N B = 0
    · refine ⟨becomeM m, ?_, Ko_bec, ?_⟩
      · rw [if_neg (by omega)]
      · rw [if_pos q]
        exact bec_n h
    · refine ⟨(it (mN N B) (portF (iN N B)) (becomeM m, seed)).1, ?_, ?_⟩
      · rw [if_pos (by omega)]
      · rw [if_neg q]
        have key := it_sim (portF (iN N B)) (poF N B) (fun _ a b => Ko m a.1 ∧ CWn N B b.1 a.1 ∧ a.2 = b.2) (mN N B) (fun k hk a b ⟨h1, h2, h3⟩ => by
          unfold portF poF
          rw [h3]
          refine ⟨Ko_t h1 (Ko_up (by omega)), ?_, rfl⟩
          exact CW_up (i := 4) (x := k) (v := ltV N B (lotV b.2)) h2 (by decide)) (becomeM m, seed) (w0 N B, seed) ⟨Ko_bec, bec_n h, rfl⟩ _ (Nat.le_refl _)
        exact ⟨key.1, key.2.1⟩
  obtain ⟨X, eX, kX, cX⟩ := hpre
  rw [eX]
  exact ⟨Ko_t kX Ko_run, (or_eq hP cX).1⟩
theorem c_port (h : Bs N B m) (hc : Ca N B m) {seed x : Int32} : CR S N B 72 [some (.ref 0), some (.int seed), some (.int x), none, none] m (.int (aPort N B seed x)) := by
  have e := fun (f : Nat) (Rt : Option Value → AMem → Prop) => s_port (S := S) (f := f + 3) (Rt := Rt) (Bs_TS h) (seed := seed) (x := x)
  have h8i := (Bs_m8 h).2.1
  obtain ⟨k1, k2⟩ := port_ok h (seed := seed)
  unfold aPort
  by_cases q : x = -1
  · refine Ko_CR hc k1 (fun f Rt => (e f Rt).trans ?_)
    rw [if_pos q, if_pos (Or.inl q), sailed_sai (poW_ok h seed).1 k2]
    unfold poA
    rw [if_pos q]
  · by_cases q2 : nI 0 ≤ x ∧ x < nI (iN N B)
    · refine Ko_CR hc k1 (fun f Rt => (e f Rt).trans ?_)
      obtain ⟨k, hk, rfl⟩ := P_nI q2 (by omega)
      rw [if_neg q, if_pos q2, if_pos (Or.inr q2), nI_cl8 (by omega)]
      unfold poA
      rw [if_neg q, nI_cl8 (by omega), show portE (mN N B) (iN N B) (fN N B) seed m 49 k = RR N B (poW N B seed) 29 89 k from k2.2.1 k (by omega)]
    · rw [if_neg (fun z => z.elim q q2)]
      exact CR_same hc (fun f Rt => (e f Rt).trans (by rw [if_neg q, if_neg q2]))
/-- counts: fnd is the latest finding -/
def aCount (N : Nat → Nat) (B : Nat → Nat → Nat) (fnd : Int32) (v : Int32) : Int32 := if nI 0 ≤ v ∧ v < nI 9 then (if v.toNatClampNeg = 0 then nI (mN N B) else if v.toNatClampNeg = 1 then nI (iN N B) else if v.toNatClampNeg = 2 then nI (fN N B) else if v.toNatClampNeg = 3 then nI (N 0) else if v.toNatClampNeg = 4 then nI (N 1) else if v.toNatClampNeg = 5 then nI (N 2) else if v.toNatClampNeg = 6 then saiP (mN N B) (RR N B (w0 N B) 29) else if v.toNatClampNeg = 7 then nI (N 4) else fnd) else -2
theorem c_count (h : Bs N B m) (hc : Ca N B m) {v : Int32} : CR S N B 80 [some (.ref 0), some (.int v)] m (.int (aCount N B (m 0 11) v)) := by
  unfold aCount
  by_cases q : nI 0 ≤ v ∧ v < nI 9
  · obtain ⟨k, hk, rfl⟩ := P_nI q (by decide)
    have e := fun (f : Nat) (Rt : Option Value → AMem → Prop) => s_count (S := S) (f := f + 3) (Rt := Rt) (Bs_TS h) (w := k) hk
    rw [if_pos q, nI_cl8 (by omega)]
    have t0 := (h.1 0 (by decide)).1.1
    have t1 := (h.1 1 (by decide)).1.1
    have t2 := (h.1 2 (by decide)).1.1
    have ts := Bs_TS h
    rcases (show k = 0 ∨ k = 1 ∨ k = 2 ∨ k = 3 ∨ k = 4 ∨ k = 5 ∨ k = 6 ∨ k = 7 ∨ k = 8 by omega) with rfl | rfl | rfl | rfl | rfl | rfl | rfl | rfl | rfl
    · exact CR_same hc (fun f Rt => (e f Rt).trans (by show Rt (some (.int (m 8 0))) m = _; rw [ts.1]; rfl))
    · exact CR_same hc (fun f Rt => (e f Rt).trans (by show Rt (some (.int (m 8 1))) m = _; rw [ts.2.1]; rfl))
    · exact CR_same hc (fun f Rt => (e f Rt).trans (by show Rt (some (.int (m 8 2))) m = _; rw [ts.2.2.1]; rfl))
    · exact CR_same hc (fun f Rt => (e f Rt).trans (by show Rt (some (.int (m 2 2))) m = _; rw [show m 2 2 = nI (N 0) from t0]; rfl))
    · exact CR_same hc (fun f Rt => (e f Rt).trans (by show Rt (some (.int (m 3 2))) m = _; rw [show m 3 2 = nI (N 1) from t1]; rfl))
    · exact CR_same hc (fun f Rt => (e f Rt).trans (by show Rt (some (.int (m 4 2))) m = _; rw [show m 4 2 = nI (N 2) from t2]; rfl))
    · obtain ⟨r1, r2, r3⟩ := Ca_run h hc
      refine ⟨_, r1, r2, fun f Rt => (e f Rt).trans ?_⟩
      show Rt (some (.int (sailedM 30 (monM (mN N B) (fN N B) m)))) (monM (mN N B) (fN N B) m) = _
      rw [sailed_sai (Bs_ok0 h) r3.1]
      rfl
    · exact CR_same hc (fun f Rt => (e f Rt).trans (by show Rt (some (.int (m 60 3))) m = _; rw [h.2.2.2.1.1]; rfl))
    · exact CR_same hc (fun f Rt => (e f Rt).trans rfl)
  · rw [if_neg q]
    exact CR_same hc (fun f Rt => s_countB (S := S) (f := f + 3) (Rt := Rt) q)
def aFault (N : Nat → Nat) (B : Nat → Nat → Nat) (x : Int32) : Int32 := if nI 0 ≤ x ∧ x < nI 3 then optI (ffN x.toNatClampNeg (N x.toNatClampNeg) (B x.toNatClampNeg)) else -2
theorem c_fault (h : Bs N B m) (hc : Ca N B m) {x : Int32} : CR S N B 37 [some (.ref 0), some (.int x)] m (.int (aFault N B x)) := by
  unfold aFault
  by_cases q : nI 0 ≤ x ∧ x < nI 3
  · obtain ⟨k, hk, rfl⟩ := P_nI q (by decide)
    rw [if_pos q, nI_cl8 (by omega)]
    rcases (show k = 0 ∨ k = 1 ∨ k = 2 by omega) with rfl | rfl | rfl
    · exact CR_same hc (fun f Rt => s_fault0 (S := S) (f := f) (Rt := Rt) (h.1 0 (by decide)).1)
    · exact CR_same hc (fun f Rt => s_fault1 (S := S) (f := f) (Rt := Rt) (h.1 1 (by decide)).1)
    · exact CR_same hc (fun f Rt => s_fault2 (S := S) (f := f) (Rt := Rt) (h.1 2 (by decide)).1)
  · rw [if_neg q]
    exact CR_same hc (fun f Rt => s_faultB (S := S) (f := f) (Rt := Rt) q)
def aRow (N : Nat → Nat) (B : Nat → Nat → Nat) (n r0 many : Nat) (x v : Int32) : Int32 := if (nI 0 ≤ x ∧ x < nI n) ∧ (nI 0 ≤ v ∧ v < nI many) then w0 N B (r0 + v.toNatClampNeg) x.toNatClampNeg else -2
theorem v4 {v : Int32} (h : nI 0 ≤ v ∧ v < nI 4) : v = nI 0 ∨ v = nI 1 ∨ v = nI 2 ∨ v = nI 3 := by
  obtain ⟨k, hk, rfl⟩ := P_nI h (by decide)
  rcases (show k = 0 ∨ k = 1 ∨ k = 2 ∨ k = 3 by omega) with rfl | rfl | rfl | rfl
  · exact Or.inl rfl
  · exact Or.inr (Or.inl rfl)
  · exact Or.inr (Or.inr (Or.inl rfl))
  · exact Or.inr (Or.inr (Or.inr rfl))
theorem v2 {v : Int32} (h : nI 0 ≤ v ∧ v < nI 2) : v = nI 0 ∨ v = nI 1 := by
  obtain ⟨k, hk, rfl⟩ := P_nI h (by decide)
  rcases (show k = 0 ∨ k = 1 by omega) with rfl | rfl
  · exact Or.inl rfl
  · exact Or.inr rfl
theorem c_sailor (h : Bs N B m) (hc : Ca N B m) {x v : Int32} : CR S N B 38 [some (.ref 0), some (.int x), some (.int v)] m (.int (aRow N B (mN N B) 1 4 x v)) := by
  have e : sailorM (mN N B) x v m = aRow N B (mN N B) 1 4 x v := by
    have h8 := (Bs_m8 h).1
    unfold sailorM aRow
    by_cases q : nI 0 ≤ x ∧ x < nI (mN N B)
    · obtain ⟨k, hk, rfl⟩ := P_nI q (by omega)
      rw [if_pos q, nI_cl8 (by omega)]
      have c := h.2.2.1.2.2.1
      by_cases q2 : nI 0 ≤ v ∧ v < nI 4
      · have hq : (nI 0 ≤ nI k ∧ nI k < nI (mN N B)) ∧ (nI 0 ≤ v ∧ v < nI 4) := ⟨q, q2⟩
        rw [if_pos hq]
        rcases v4 q2 with rfl | rfl | rfl | rfl
        · rw [if_pos rfl]; exact c 1 k (by omega) (by omega) hk
        · rw [if_neg (show ¬ nI 1 = nI 0 by decide), if_pos rfl]; exact c 2 k (by omega) (by omega) hk
        · rw [if_neg (show ¬ nI 2 = nI 0 by decide), if_neg (show ¬ nI 2 = nI 1 by decide), if_pos rfl]; exact c 3 k (by omega) (by omega) hk
        · rw [if_neg (show ¬ nI 3 = nI 0 by decide), if_neg (show ¬ nI 3 = nI 1 by decide), if_neg (show ¬ nI 3 = nI 2 by decide), if_pos rfl]; exact c 4 k (by omega) (by omega) hk
      · have hq : ¬ ((nI 0 ≤ nI k ∧ nI k < nI (mN N B)) ∧ (nI 0 ≤ v ∧ v < nI 4)) := fun z => q2 z.2
        rw [if_neg hq, if_neg (show ¬ v = nI 0 from fun z => q2 (by rw [z]; decide)), if_neg (show ¬ v = nI 1 from fun z => q2 (by rw [z]; decide)), if_neg (show ¬ v = nI 2 from fun z => q2 (by rw [z]; decide)), if_neg (show ¬ v = nI 3 from fun z => q2 (by rw [z]; decide))]
    · rw [if_neg q, if_neg (fun z => q z.1)]
  rw [← e]
  exact CR_same hc (fun f Rt => s_sailor (S := S) (f := f + 6) (Rt := Rt) (Bs_TS h))
theorem c_ship (h : Bs N B m) (hc : Ca N B m) {x v : Int32} : CR S N B 42 [some (.ref 0), some (.int x), some (.int v)] m (.int (aRow N B (fN N B) 7 4 x v)) := by
  have e : shipM (fN N B) x v m = aRow N B (fN N B) 7 4 x v := by
    have h8 := (Bs_m8 h).2.2
    unfold shipM aRow
    by_cases q : nI 0 ≤ x ∧ x < nI (fN N B)
    · obtain ⟨k, hk, rfl⟩ := P_nI q (by omega)
      rw [if_pos q, nI_cl8 (by omega)]
      have c := h.2.2.1.2.2.2.2
      by_cases q2 : nI 0 ≤ v ∧ v < nI 4
      · have hq : (nI 0 ≤ nI k ∧ nI k < nI (fN N B)) ∧ (nI 0 ≤ v ∧ v < nI 4) := ⟨q, q2⟩
        rw [if_pos hq]
        rcases v4 q2 with rfl | rfl | rfl | rfl
        · rw [if_pos rfl]; exact c 7 k (by omega) (by omega) hk
        · rw [if_neg (show ¬ nI 1 = nI 0 by decide), if_pos rfl]; exact c 8 k (by omega) (by omega) hk
        · rw [if_neg (show ¬ nI 2 = nI 0 by decide), if_neg (show ¬ nI 2 = nI 1 by decide), if_pos rfl]; exact c 9 k (by omega) (by omega) hk
        · rw [if_neg (show ¬ nI 3 = nI 0 by decide), if_neg (show ¬ nI 3 = nI 1 by decide), if_neg (show ¬ nI 3 = nI 2 by decide), if_pos rfl]; exact c 10 k (by omega) (by omega) hk
      · have hq : ¬ ((nI 0 ≤ nI k ∧ nI k < nI (fN N B)) ∧ (nI 0 ≤ v ∧ v < nI 4)) := fun z => q2 z.2
        rw [if_neg hq, if_neg (show ¬ v = nI 0 from fun z => q2 (by rw [z]; decide)), if_neg (show ¬ v = nI 1 from fun z => q2 (by rw [z]; decide)), if_neg (show ¬ v = nI 2 from fun z => q2 (by rw [z]; decide)), if_neg (show ¬ v = nI 3 from fun z => q2 (by rw [z]; decide))]
    · rw [if_neg q, if_neg (fun z => q z.1)]
  rw [← e]
  exact CR_same hc (fun f Rt => s_ship (S := S) (f := f + 6) (Rt := Rt) (Bs_TS h))
theorem c_house (h : Bs N B m) (hc : Ca N B m) {x v : Int32} : CR S N B 40 [some (.ref 0), some (.int x), some (.int v)] m (.int (aRow N B (iN N B) 5 2 x v)) := by
  have e : houseM (iN N B) x v m = aRow N B (iN N B) 5 2 x v := by
    have h8 := (Bs_m8 h).2.1
    unfold houseM aRow
    by_cases q : nI 0 ≤ x ∧ x < nI (iN N B)
    · obtain ⟨k, hk, rfl⟩ := P_nI q (by omega)
      rw [if_pos q, nI_cl8 (by omega)]
      have c := h.2.2.1.2.2.2.1
      by_cases q2 : nI 0 ≤ v ∧ v < nI 2
      · have hq : (nI 0 ≤ nI k ∧ nI k < nI (iN N B)) ∧ (nI 0 ≤ v ∧ v < nI 2) := ⟨q, q2⟩
        rw [if_pos hq]
        rcases v2 q2 with rfl | rfl
        · rw [if_pos rfl]; exact c 5 k (by omega) (by omega) hk
        · rw [if_neg (show ¬ nI 1 = nI 0 by decide), if_pos rfl]; exact c 6 k (by omega) (by omega) hk
      · have hq : ¬ ((nI 0 ≤ nI k ∧ nI k < nI (iN N B)) ∧ (nI 0 ≤ v ∧ v < nI 2)) := fun z => q2 z.2
        rw [if_neg hq, if_neg (show ¬ v = nI 0 from fun z => q2 (by rw [z]; decide)), if_neg (show ¬ v = nI 1 from fun z => q2 (by rw [z]; decide))]
    · rw [if_neg q, if_neg (fun z => q z.1)]
  rw [← e]
  exact CR_same hc (fun f Rt => s_house (S := S) (f := f + 6) (Rt := Rt) (Bs_TS h))
end CSM
