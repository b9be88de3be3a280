section WORLD
variable {m : AMem} {t n n0 n1 n2 : Nat} {b b0 b1 b2 : Nat → Nat}
def wT (b0 b1 b2 : Nat → Nat) (c a : Int32) : AMem := fun i k => if i = 0 then (if k = 3 then c else if k = 4 then a else 0) else if i ≤ 4 then wv 0 b0 i k else if i ≤ 6 then wv 1 b1 i k else wv 2 b2 i k
theorem wT_m {c a : Int32} {i k : Nat} (h1 : 1 ≤ i) (h2 : i ≤ 4) : wT b0 b1 b2 c a i k = wv 0 b0 i k := by unfold wT; rw [if_neg (by omega), if_pos h2]
theorem wT_i {c a : Int32} {i k : Nat} (h1 : 5 ≤ i) (h2 : i ≤ 6) : wT b0 b1 b2 c a i k = wv 1 b1 i k := by unfold wT; rw [if_neg (by omega), if_neg (by omega), if_pos h2]
theorem wT_f {c a : Int32} {i k : Nat} (h1 : 7 ≤ i) : wT b0 b1 b2 c a i k = wv 2 b2 i k := by unfold wT; rw [if_neg (by omega), if_neg (by omega), if_neg (by omega)]
theorem itm_fit (ht : t ≤ 2) {k j : Nat} (hk : k < itemsN t n b) (hj : j < szN t) : k * stp t + j < n ∧ fitN (sgn t j) (b (k * stp t + j)) = true := by
  have hs := stp_e ht
  have h1 := items_in hk (by omega)
  have h2 : k * stp t + j < n := by omega
  refine ⟨h2, ?_⟩
  rw [← okB_at (by omega)]
  unfold itemsN at hk
  cases p : ffN t n b with
  | some v => rw [p] at hk; cases hk
  | none =>
    unfold ffN at p
    cases q : ffL (okB t b) n 0 with
    | some v => rw [q] at p; cases p
    | none => exact ffL_all n 0 q _ (Nat.zero_le _) (by omega)
theorem men_fit (hb : ∀ i, i < n → b i < 256) {k : Nat} (hk : k < itemsN 0 n b) : (b (k * 5) < 256 ∧ fitN 107 (b (k * 5)) = true) ∧ (48 ≤ b (k * 5 + 1) ∧ b (k * 5 + 1) ≤ 57) ∧ (48 ≤ b (k * 5 + 2) ∧ b (k * 5 + 2) ≤ 57) ∧ (48 ≤ b (k * 5 + 3) ∧ b (k * 5 + 3) ≤ 55) := by
  have g0 : k * 5 < n ∧ fitN 107 (b (k * 5)) = true := itm_fit (by decide) hk (j := 0) (by decide)
  have g1 : k * 5 + 1 < n ∧ fitN 102 (b (k * 5 + 1)) = true := itm_fit (by decide) hk (j := 1) (by decide)
  have g2 : k * 5 + 2 < n ∧ fitN 102 (b (k * 5 + 2)) = true := itm_fit (by decide) hk (j := 2) (by decide)
  have g3 : k * 5 + 3 < n ∧ fitN 104 (b (k * 5 + 3)) = true := itm_fit (by decide) hk (j := 3) (by decide)
  rw [fit_102] at g1 g2
  rw [fit_104] at g3
  exact ⟨⟨hb _ g0.1, g0.2⟩, by omega, by omega, by omega⟩
theorem inns_fit {k : Nat} (hk : k < itemsN 1 n b) : (48 ≤ b (k * 3) ∧ b (k * 3) ≤ 57) ∧ (48 ≤ b (k * 3 + 1) ∧ b (k * 3 + 1) ≤ 57) := by
  have g0 : k * 3 < n ∧ fitN 102 (b (k * 3)) = true := itm_fit (by decide) hk (j := 0) (by decide)
  have g1 : k * 3 + 1 < n ∧ fitN 110 (b (k * 3 + 1)) = true := itm_fit (by decide) hk (j := 1) (by decide)
  rw [fit_102] at g0
  rw [fit_110] at g1
  exact ⟨by omega, by omega⟩
theorem fleet_fit {k : Nat} (hk : k < itemsN 2 n b) : (48 ≤ b (k * 6) ∧ b (k * 6) ≤ 50) ∧ (48 ≤ b (k * 6 + 1) ∧ b (k * 6 + 1) ≤ 57) ∧ (48 ≤ b (k * 6 + 2) ∧ b (k * 6 + 2) ≤ 57) ∧ (48 ≤ b (k * 6 + 3) ∧ b (k * 6 + 3) ≤ 57) ∧ (48 ≤ b (k * 6 + 4) ∧ b (k * 6 + 4) ≤ 57) := by
  have g0 : k * 6 < n ∧ fitN 100 (b (k * 6)) = true := itm_fit (by decide) hk (j := 0) (by decide)
  have g1 : k * 6 + 1 < n ∧ fitN 102 (b (k * 6 + 1)) = true := itm_fit (by decide) hk (j := 1) (by decide)
  have g2 : k * 6 + 2 < n ∧ fitN 110 (b (k * 6 + 2)) = true := itm_fit (by decide) hk (j := 2) (by decide)
  have g3 : k * 6 + 3 < n ∧ fitN 102 (b (k * 6 + 3)) = true := itm_fit (by decide) hk (j := 3) (by decide)
  have g4 : k * 6 + 4 < n ∧ fitN 102 (b (k * 6 + 4)) = true := itm_fit (by decide) hk (j := 4) (by decide)
  rw [fit_100] at g0
  rw [fit_102] at g1 g3 g4
  rw [fit_110] at g2
  exact ⟨by omega, by omega, by omega, by omega, by omega⟩
theorem items_cap (ht : t ≤ 2) (hn : n ≤ tcap t) : itemsN t n b ≤ mostN t := by
  match t, ht with
  | 0, _ => exact items_le (by show n + 1 < 9 * 5; have : n ≤ 39 := hn; omega)
  | 1, _ => exact items_le (by show n + 1 < 9 * 3; have : n ≤ 23 := hn; omega)
  | 2, _ => exact items_le (by show n + 1 < 7 * 6; have : n ≤ 35 := hn; omega)
theorem wT_ok (h0 : n0 ≤ tcap 0) (h1 : n1 ≤ tcap 1) (h2 : n2 ≤ tcap 2) (hb : ∀ i, i < n0 → b0 i < 256) {c a : Nat} (hc : c < 10) (ha : a < 64) : Wok (itemsN 0 n0 b0) (itemsN 1 n1 b1) (itemsN 2 n2 b2) (wT b0 b1 b2 (nI c) (nI a)) := by
  refine ⟨⟨items_cap (by decide) h0, items_cap (by decide) h1, items_cap (by decide) h2⟩, fun k hk => ?_, fun k hk => ?_, fun k hk => ?_, ⟨c, hc, rfl⟩, ⟨a, ha, rfl⟩⟩
  · obtain ⟨f0, f1, f2, f3⟩ := men_fit hb hk
    refine ⟨⟨kindN (b0 (k * 5)), (kind_all2 _ f0.1 f0.2).2, rfl⟩, ⟨b0 (k * 5 + 1) - 48, by omega, rfl⟩, ⟨b0 (k * 5 + 2) - 48, by omega, rfl⟩, ⟨b0 (k * 5 + 3) - 48, by omega, rfl⟩⟩
  · obtain ⟨f0, f1⟩ := inns_fit hk
    exact ⟨⟨b1 (k * 3) - 48, by omega, rfl⟩, ⟨b1 (k * 3 + 1) - 48, by omega, rfl⟩⟩
  · obtain ⟨f0, f1, f2, f3, f4⟩ := fleet_fit hk
    exact ⟨⟨10 * (b2 (k * 6) - 48) + (b2 (k * 6 + 1) - 48), by omega, rfl⟩, ⟨b2 (k * 6 + 2) - 48, by omega, rfl⟩, ⟨b2 (k * 6 + 3) - 48, by omega, rfl⟩, ⟨b2 (k * 6 + 4) - 48, by omega, rfl⟩⟩
/-- reading on the other side -/
theorem reads_MW (h0 : n0 ≤ tcap 0) (h1 : n1 ≤ tcap 1) (h2 : n2 ≤ tcap 2) (g0 : ∀ i, i < n0 → b0 i < 256) (g1 : ∀ i, i < n1 → b1 i < 256) (g2 : ∀ i, i < n2 → b2 i < 256) : MW (itemsN 0 n0 b0) (itemsN 1 n1 b1) (itemsN 2 n2 b2) (wT b0 b1 b2 (m 73 15) (m 73 16)) (faultM n0 n1 n2 b0 b1 b2 m) ∧ (∀ j, j ≠ 2 ∧ j ≠ 7 ∧ j ≠ 10 → faultM n0 n1 n2 b0 b1 b2 m 73 j = m 73 j) ∧ ∀ u, u < 3 → faultI n0 n1 n2 b0 b1 b2 u m = optI (if u = 0 then ffN 0 n0 b0 else if u = 1 then ffN 1 n1 b1 else ffN 2 n2 b2) := by
  obtain ⟨p1, p2, p3, p4⟩ := parts_all (m := m) (show 0 ≤ 2 by decide) g0 h0
  obtain ⟨q1, q2, q3, q4⟩ := parts_all (m := (partsM 0 n0 b0 m).2) (show 1 ≤ 2 by decide) g1 h1
  obtain ⟨r1, r2, r3, r4⟩ := parts_all (m := (partsM 1 n1 b1 (partsM 0 n0 b0 m).2).2) (show 2 ≤ 2 by decide) g2 h2
  have k0 : kpS 0 = 2 := by decide
  have k1 : kpS 1 = 7 := by decide
  have k2 : kpS 2 = 10 := by decide
  rw [k0] at p2
  rw [k1] at q2
  rw [k2] at r2
  have a0 : rwL 0 = 1 ∧ rwH 0 = 4 := by decide
  have a1 : rwL 1 = 5 ∧ rwH 1 = 6 := by decide
  have a2 : rwL 2 = 7 ∧ rwH 2 = 10 := by decide
  unfold faultM faultI
  refine ⟨⟨⟨?_, ?_, ?_⟩, ⟨?_, ?_⟩, fun i k x1 x2 x3 => ?_, fun i k x1 x2 x3 => ?_, fun i k x1 x2 x3 => ?_⟩, fun j hj => ?_, fun u hu => ?_⟩
  · rw [r2, if_neg (by decide), q2, if_neg (by decide), p2, if_pos rfl]
  · rw [r2, if_neg (by decide), q2, if_pos rfl]
  · rw [r2, if_pos rfl]
  · rw [r2, if_neg (by decide), q2, if_neg (by decide), p2, if_neg (by decide)]
    rfl
  · rw [r2, if_neg (by decide), q2, if_neg (by decide), p2, if_neg (by decide)]
    rfl
  · rw [r4 i (by omega) (by omega) (by omega), q4 i (by omega) (by omega) (by omega), wT_m x1 x2]
    exact p3 i k (by omega) (by omega) x3
  · rw [r4 i (by omega) (by omega) (by omega), wT_i x1 x2]
    exact q3 i k (by omega) (by omega) x3
  · rw [wT_f x1]
    exact r3 i k (by omega) (by omega) x3
  · rw [r2, if_neg hj.2.2, q2, if_neg hj.2.1, p2, if_neg hj.1]
  · match u, hu with
    | 0, _ => exact p1
    | 1, _ => exact q1
    | 2, _ => exact r1
theorem tellMen_c (hb : ∀ i, i < n → b i < 256) : (∀ i k, 1 ≤ i → i ≤ 4 → k < itemsN 0 n b → tellMenM n b m (8 + i) k = wv 0 b i k) ∧ (∀ a, a < 8 + 1 ∨ 8 + 4 < a → a ≠ 8 → tellMenM n b m a = m a) ∧ ∀ j, tellMenM n b m 8 j = if j = 0 then nI (itemsN 0 n b) else m 8 j := by
  unfold tellMenM
  have row : ∀ a, a < 8 + 1 ∨ 8 + 4 < a → ∀ n0 (m : AMem), it n0 (tellMenF b) m a = m a := fun a ha n0 m => it_row (fun k m => by unfold tellMenF; rw [up_row (by omega), up_row (by omega), up_row (by omega), up_row (by omega)]) n0 m
  refine ⟨?_, fun a h1 h2 => by rw [row a h1, up_row h2], fun j => ?_⟩
  · have key := it_I (tellMenF b) (fun j m2 => ∀ i k, 1 ≤ i → i ≤ 4 → k < j → m2 (8 + i) k = wv 0 b i k) (itemsN 0 n b) (fun j hj m2 h i k h1 h2 h3 => by
    obtain ⟨f0, f1, f2, f3⟩ := men_fit hb hj
    have e0 : kindV (nI (b (j * 5 + 0))) = nI (kindN (b (j * 5))) := (kind_all2 _ f0.1 f0.2).1
    have e1 : nI (b (j * 5 + 1)) - nI 48 = nI (b (j * 5 + 1) - 48) := nI_sub f1.1
    have e2 : nI (b (j * 5 + 2)) - nI 48 = nI (b (j * 5 + 2) - 48) := nI_sub f2.1
    have e3 : nI (b (j * 5 + 3)) - nI 48 = nI (b (j * 5 + 3) - 48) := nI_sub f3.1
    unfold tellMenF
    rw [e0, e1, e2, e3]
    by_cases z : k = j
    · subst z
      rcases (show i = 1 ∨ i = 2 ∨ i = 3 ∨ i = 4 by omega) with rfl | rfl | rfl | rfl <;> simp [up_ap, wv]
    · rw [up_off (by omega), up_off (by omega), up_off (by omega), up_off (by omega)]
      exact h i k h1 h2 (by omega)) (up m 8 0 (nI (itemsN 0 n b))) (fun i k _ _ h => by omega) _ (Nat.le_refl _)
    exact key
  · rw [row 8 (by omega)]
    by_cases z : j = 0
    · rw [if_pos z, z, up_at]
    · rw [if_neg z, up_off (Or.inr z)]
theorem tellInns_c : (∀ i k, 5 ≤ i → i ≤ 6 → k < itemsN 1 n b → tellInnsM n b m (8 + i) k = wv 1 b i k) ∧ (∀ a, a < 8 + 5 ∨ 8 + 6 < a → a ≠ 8 → tellInnsM n b m a = m a) ∧ ∀ j, tellInnsM n b m 8 j = if j = 1 then nI (itemsN 1 n b) else m 8 j := by
  unfold tellInnsM
  have row : ∀ a, a < 8 + 5 ∨ 8 + 6 < a → ∀ n0 (m : AMem), it n0 (tellInnsF b) m a = m a := fun a ha n0 m => it_row (fun k m => by unfold tellInnsF; rw [up_row (by omega), up_row (by omega)]) n0 m
  refine ⟨?_, fun a h1 h2 => by rw [row a h1, up_row h2], fun j => ?_⟩
  · have key := it_I (tellInnsF b) (fun j m2 => ∀ i k, 5 ≤ i → i ≤ 6 → k < j → m2 (8 + i) k = wv 1 b i k) (itemsN 1 n b) (fun j hj m2 h i k h1 h2 h3 => by
    obtain ⟨f0, f1⟩ := inns_fit hj
    have e0 : nI (b (j * 3 + 0)) - nI 48 = nI (b (j * 3) - 48) := nI_sub f0.1
    have e1 : nI (b (j * 3 + 1)) - nI 48 = nI (b (j * 3 + 1) - 48) := nI_sub f1.1
    unfold tellInnsF
    rw [e0, e1]
    by_cases z : k = j
    · subst z
      rcases (show i = 5 ∨ i = 6 by omega) with rfl | rfl <;> simp [up_ap, wv]
    · rw [up_off (by omega), up_off (by omega)]
      exact h i k h1 h2 (by omega)) (up m 8 1 (nI (itemsN 1 n b))) (fun i k _ _ h => by omega) _ (Nat.le_refl _)
    exact key
  · rw [row 8 (by omega)]
    by_cases z : j = 1
    · rw [if_pos z, z, up_at]
    · rw [if_neg z, up_off (Or.inr z)]
theorem tellFleet_c : (∀ i k, 7 ≤ i → i ≤ 10 → k < itemsN 2 n b → tellFleetM n b m (8 + i) k = wv 2 b i k) ∧ (∀ a, a < 8 + 7 ∨ 8 + 10 < a → a ≠ 8 → tellFleetM n b m a = m a) ∧ ∀ j, tellFleetM n b m 8 j = if j = 2 then nI (itemsN 2 n b) else m 8 j := by
  unfold tellFleetM
  have row : ∀ a, a < 8 + 7 ∨ 8 + 10 < a → ∀ n0 (m : AMem), it n0 (tellFleetF b) m a = m a := fun a ha n0 m => it_row (fun k m => by unfold tellFleetF; rw [up_row (by omega), up_row (by omega), up_row (by omega), up_row (by omega)]) n0 m
  refine ⟨?_, fun a h1 h2 => by rw [row a h1, up_row h2], fun j => ?_⟩
  · have key := it_I (tellFleetF b) (fun j m2 => ∀ i k, 7 ≤ i → i ≤ 10 → k < j → m2 (8 + i) k = wv 2 b i k) (itemsN 2 n b) (fun j hj m2 h i k h1 h2 h3 => by
    obtain ⟨f0, f1, f2, f3, f4⟩ := fleet_fit hj
    have e0 : nI 10 * (nI (b (j * 6 + 0)) - nI 48) + (nI (b (j * 6 + 1)) - nI 48) = nI (10 * (b (j * 6) - 48) + (b (j * 6 + 1) - 48)) := by
      rw [show nI (b (j * 6 + 0)) - nI 48 = nI (b (j * 6) - 48) from nI_sub f0.1, nI_sub f1.1, nI_mul8, nI_add]
    have e2 : nI (b (j * 6 + 2)) - nI 48 = nI (b (j * 6 + 2) - 48) := nI_sub f2.1
    have e3 : nI (b (j * 6 + 3)) - nI 48 = nI (b (j * 6 + 3) - 48) := nI_sub f3.1
    have e4 : nI (b (j * 6 + 4)) - nI 48 = nI (b (j * 6 + 4) - 48) := nI_sub f4.1
    unfold tellFleetF
    rw [e0, e2, e3, e4]
    by_cases z : k = j
    · subst z
      rcases (show i = 7 ∨ i = 8 ∨ i = 9 ∨ i = 10 by omega) with rfl | rfl | rfl | rfl <;> simp [up_ap, wv]
    · rw [up_off (by omega), up_off (by omega), up_off (by omega), up_off (by omega)]
      exact h i k h1 h2 (by omega)) (up m 8 2 (nI (itemsN 2 n b))) (fun i k _ _ h => by omega) _ (Nat.le_refl _)
    exact key
  · rw [row 8 (by omega)]
    by_cases z : j = 2
    · rw [if_pos z, z, up_at]
    · rw [if_neg z, up_off (Or.inr z)]
/-- the class's town behind every change of a text -/
theorem tell_CW (g0 : ∀ i, i < n0 → b0 i < 256) : CW 8 (itemsN 0 n0 b0) (itemsN 1 n1 b1) (itemsN 2 n2 b2) (wT b0 b1 b2 (m 8 3) (m 8 4)) (tellM n0 n1 n2 b0 b1 b2 m) ∧ (∀ a, a < 8 ∨ 18 < a → a ≠ 0 → tellM n0 n1 n2 b0 b1 b2 m a = m a) ∧ (∀ j, j ≠ 9 ∧ j ≠ 10 → tellM n0 n1 n2 b0 b1 b2 m 0 j = m 0 j) ∧ tellM n0 n1 n2 b0 b1 b2 m 0 9 = nI 0 ∧ tellM n0 n1 n2 b0 b1 b2 m 0 10 = nI 0 ∧ tellM n0 n1 n2 b0 b1 b2 m 8 3 = m 8 3 ∧ tellM n0 n1 n2 b0 b1 b2 m 8 4 = m 8 4 := by
  obtain ⟨p1, p2, p3⟩ := tellMen_c (m := m) g0
  obtain ⟨q1, q2, q3⟩ := tellInns_c (n := n1) (b := b1) (m := tellMenM n0 b0 m)
  obtain ⟨r1, r2, r3⟩ := tellFleet_c (n := n2) (b := b2) (m := tellInnsM n1 b1 (tellMenM n0 b0 m))
  unfold tellM
  generalize hE : tellFleetM n2 b2 (tellInnsM n1 b1 (tellMenM n0 b0 m)) = E at *
  have f : ∀ a, a ≠ 0 → forgM E a = E a := fun a ha => by unfold forgM; rw [up_row ha, up_row ha]
  have c3 : E 8 3 = m 8 3 := by rw [r3, if_neg (by decide), q3, if_neg (by decide), p3, if_neg (by decide)]
  have c4 : E 8 4 = m 8 4 := by rw [r3, if_neg (by decide), q3, if_neg (by decide), p3, if_neg (by decide)]
  refine ⟨⟨⟨?_, ?_, ?_⟩, ⟨?_, ?_⟩, fun i k x1 x2 x3 => ?_, fun i k x1 x2 x3 => ?_, fun i k x1 x2 x3 => ?_⟩, fun a h1 h2 => ?_, fun j hj => ?_, ?_, ?_, ?_, ?_⟩
  · rw [f 8 (by decide), r3, if_neg (by decide), q3, if_neg (by decide), p3, if_pos rfl]
  · rw [f 8 (by decide), r3, if_neg (by decide), q3, if_pos rfl]
  · rw [f 8 (by decide), r3, if_pos rfl]
  · rw [f 8 (by decide), c3]
    rfl
  · rw [f 8 (by decide), c4]
    rfl
  · rw [f _ (by omega), r2 (8 + i) (by omega) (by omega), q2 (8 + i) (by omega) (by omega), wT_m x1 x2]
    exact p1 i k x1 x2 x3
  · rw [f _ (by omega), r2 (8 + i) (by omega) (by omega), wT_i x1 x2]
    exact q1 i k x1 x2 x3
  · rw [f _ (by omega), wT_f x1]
    exact r1 i k x1 x2 x3
  · rw [f a h2, r2 a (by omega) (by omega), q2 a (by omega) (by omega), p2 a (by omega) (by omega)]
  · unfold forgM
    rw [up_off (by omega), up_off (by omega), r2 0 (by omega) (by omega), q2 0 (by omega) (by omega), p2 0 (by omega) (by omega)]
  · unfold forgM
    rw [up_off (by omega), up_at]
  · unfold forgM
    rw [up_at]
  · rw [f 8 (by decide), c3]
  · rw [f 8 (by decide), c4]
end WORLD
