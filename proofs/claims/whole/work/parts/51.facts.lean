section FACTS
variable {men inns fleet : Nat} {w M : AMem}
theorem comes_sl (h8 : men ≤ 8) {s : Nat} {day : Int32} (z0 : M 90 s = nI 0) (z1 : M 91 s = nI 0) : ∃ c, c < 256 ∧ (∀ k, k < 8 → c.testBit k = true → k < men ∧ (nI 0 ≤ M 88 k ∧ M 88 k < nI 8)) ∧ SlI men c s men day (byM s M) M (mComesM men s day M) := by
  have hI : InH men s M := ⟨0, 0, by decide, by decide, z0, z1, fun k _ hb => by rw [Nat.zero_testBit] at hb; cases hb⟩
  have hI2 := it_I (pickF men s) (fun _ M => InH men s M) (M 83 s).toNatClampNeg (fun _ _ M h => pick_in h8 h) M hI _ (Nat.le_refl _)
  have rows : ∀ a, a ≠ 90 ∧ a ≠ 91 → it (M 83 s).toNatClampNeg (pickF men s) M a = M a := fun a ha => it_row (fun k m => pick_row ha) _ M
  unfold mComesM cMid
  generalize hP : it (M 83 s).toNatClampNeg (pickF men s) M = P at *
  obtain ⟨b, a, b1, a1, e1, e2, hin⟩ := hI2
  obtain ⟨l1, l2⟩ := less8 a1 b1
  rw [e1, e2, l1]
  rw [rows 88 (by decide)] at hin
  have hin2 : ∀ k, k < 8 → (lessN b a).testBit k = true → k < men ∧ (nI 0 ≤ M 88 k ∧ M 88 k < nI 8) := fun k hk z => hin k hk (by
    rw [less_bit hk, Bool.and_eq_true] at z
    exact z.1)
  have hX0 : SlI men (lessN b a) s 0 day (byM s M) M (up P 92 s (nI (lessN b a))) := by
    refine ⟨up_at, fun k hk => ?_, fun h hh => ?_, ?_⟩
    · rw [if_neg (fun z => by omega), if_neg (fun z => by omega), if_neg (fun z => by omega), up_row (by omega), up_row (by omega), up_row (by omega), rows 86 (by decide), rows 88 (by decide), rows 93 (by decide)]
      exact ⟨rfl, rfl, rfl⟩
    · rw [up_row (by omega), rows 89 (by decide)]
      show M 89 h = M 89 h + nI 0
      rw [show (nI 0 : Int32) = 0 from rfl, Int32.add_zero]
    · rw [up_row (by omega), rows 73 (by decide)]
      rfl
  exact ⟨lessN b a, l2, hin2, it_I (sailF s (byM s M) day) (fun j Y => SlI men (lessN b a) s j day (byM s M) M Y) men (fun j hj Y h => sail_step h8 l2 hj hin2 h) _ hX0 men (Nat.le_refl _)⟩
theorem inc_le {c yy h : Nat} : ∀ n, n ≤ 8 → ∃ q, q ≤ n * yy ∧ incI n c (nI yy) M h = nI q := by
  intro n
  induction n with
  | zero => intro _; exact ⟨0, by omega, rfl⟩
  | succ n ih =>
    intro hn
    obtain ⟨q, hq, e⟩ := ih (by omega)
    show ∃ q, q ≤ (n + 1) * yy ∧ (if c.testBit n = true ∧ M 88 n = nI h then incI n c (nI yy) M h + nI yy else incI n c (nI yy) M h) = nI q
    rw [Nat.add_mul]
    split
    · exact ⟨q + yy, by omega, by rw [e, nI_add]⟩
    · exact ⟨q, by omega, e⟩
/-- what holds of a month behind each day -/
def Ft (men day Q : Nat) (M : AMem) : Prop :=
  (∀ k, k < men → (M 93 k = -1 ∧ ¬ ∃ s, s < 6 ∧ M 88 k = nI (8 + s)) ∨ ∃ d s, d < day ∧ s < 6 ∧ M 93 k = nI d ∧ M 88 k = nI (8 + s)) ∧
  (∀ h, h < 8 → ∃ q, q ≤ Q ∧ M 89 h = nI q) ∧
  (∀ k, k < men → ∃ q, q ≤ 90 ∧ M 87 k = nI q) ∧
  (∀ s, s < 6 → ∃ b, b < 256 ∧ M 92 s = nI b ∧ ∀ k, k < 8 → (b.testBit k = true ↔ (k < men ∧ M 88 k = nI (8 + s))))
theorem by_le (hw : Wok men inns fleet w) (hM : MW men inns fleet w M) {s : Nat} (hs : s < fleet) : ∃ y, y ≤ 90 ∧ byM s M = nI y := by
  obtain ⟨a, ha, e⟩ := (hw.2.2.2.1 s hs).2.2.1
  obtain ⟨c, hc, e2⟩ := hw.2.2.2.2.1
  unfold byM
  rw [show M 84 s = w 9 s from hM.2.2.2.2 9 s (by omega) (by omega) hs, hM.2.1.1, e, e2]
  split
  · exact ⟨10 * a, by omega, nI_mul8 10 a⟩
  · exact ⟨10 * c, by omega, nI_mul8 10 c⟩
theorem ft_ship (hw : Wok men inns fleet w) (hM : MW men inns fleet w M) {day Q s : Nat} (hday : day < 100) (hs : s < fleet) (hF : Fr3 fleet w day s M) (h : Ft men (day + 1) Q M) : Ft men (day + 1) (Q + 720) (shipG men day s M) := by
  unfold shipG
  have h8 := hw.1.1
  have hf := hw.1.2.2
  split
  · rename_i hc
    have ht : tiN w s = day := by
      have e7M : M 82 s = w 7 s := hM.2.2.2.2 7 s (by omega) (by omega) hs
      have := ((Wti hw hs).1.symm.trans e7M.symm).trans hc.1
      have hl := (Wti hw hs).2
      rw [nI_eq8 (by omega) (by omega)] at this
      exact this
    obtain ⟨z0, z1, z2⟩ := hF s hs (by omega)
    obtain ⟨c, c1, hin, hS1, hS2, hS3, hS4⟩ := comes_sl (day := nI day) h8 z0 z1
    obtain ⟨y, hy, ey⟩ := by_le hw hM hs
    have r87 : mComesM men s (nI day) M 87 = M 87 := comes_row (by omega)
    have ex : ∀ k, k < men → (k < men ∧ c.testBit k = true) = (c.testBit k = true) := fun k hk => propext ⟨fun z => z.2, fun z => ⟨hk, z⟩⟩
    have r92 : ∀ i, i ≠ s → mComesM men s (nI day) M 92 i = M 92 i := fun i hi => comes_92 hi
    generalize mComesM men s (nI day) M = Y at *
    obtain ⟨f1, f2, f3, f4⟩ := h
    refine ⟨fun k hk => ?_, fun h hh => ?_, fun k hk => by rw [r87]; exact f3 k hk, fun i hi => ?_⟩
    · obtain ⟨g1, g2, g3⟩ := hS2 k hk
      rw [g2, g3]
      simp only [ex k hk]
      by_cases q : c.testBit k = true
      · rw [if_pos q, if_pos q]
        exact Or.inr ⟨day, s, by omega, by omega, rfl, rfl⟩
      · rw [if_neg q, if_neg q]
        exact f1 k hk
    · rw [hS3 h hh]
      obtain ⟨q, hq, e⟩ := f2 h hh
      rw [ey]
      obtain ⟨q2, hq2, e2⟩ := inc_le (M := M) (c := c) (yy := y) (h := h) men h8
      have : men * y ≤ 8 * 90 := Nat.mul_le_mul h8 hy
      exact ⟨q + q2, by omega, by rw [e, e2, nI_add]⟩
    · by_cases z : i = s
      · subst z
        refine ⟨c, c1, hS1, fun k hk => ⟨fun q => ?_, fun q => ?_⟩⟩
        · have hkm := (hin k hk q).1
          obtain ⟨g1, g2, g3⟩ := hS2 k hkm
          rw [g2, if_pos ⟨hkm, q⟩]
          exact ⟨hkm, rfl⟩
        · obtain ⟨g1, g2, g3⟩ := hS2 k q.1
          have q2 := q.2
          rw [g2] at q2
          apply Classical.byContradiction
          intro n
          rw [if_neg (fun z => n z.2)] at q2
          obtain ⟨b, b1, e, hb⟩ := f4 i hi
          have e0 : b = 0 := by
            have := e.symm.trans z2
            rw [nI_eq8 (by omega) (by omega)] at this
            exact this
          subst e0
          have := (hb k hk).mpr ⟨q.1, q2⟩
          rw [Nat.zero_testBit] at this
          cases this
      · rw [r92 i z]
        obtain ⟨b, b1, e, hb⟩ := f4 i hi
        refine ⟨b, b1, e, fun k hk => (hb k hk).trans ⟨fun q => ?_, fun q => ?_⟩⟩
        · obtain ⟨g1, g2, g3⟩ := hS2 k q.1
          refine ⟨q.1, ?_⟩
          rw [g2, if_neg (fun y => ?_)]
          · exact q.2
          · have := (hin k hk y.2).2.2
            rw [q.2, nI_lt8 (by omega) (by omega)] at this
            omega
        · obtain ⟨g1, g2, g3⟩ := hS2 k q.1
          have q2 := q.2
          rw [g2] at q2
          by_cases y : k < men ∧ c.testBit k = true
          · rw [if_pos y, nI_eq8 (by omega) (by omega)] at q2
            omega
          · rw [if_neg y] at q2
            exact ⟨q.1, q2⟩
  · obtain ⟨f1, f2, f3, f4⟩ := h
    exact ⟨f1, fun h hh => by obtain ⟨q, hq, e⟩ := f2 h hh; exact ⟨q, by omega, e⟩, f3, f4⟩
theorem cost_le (hw : Wok men inns fleet w) (hM : MW men inns fleet w M) {k h : Nat} (hk : k < men) (hh : h < inns) (e : M 88 k = nI h) : ∃ q, q ≤ 18 ∧ costG k M = nI q := by
  have hi := hw.1.2.1
  obtain ⟨p, hp, ep⟩ := (hw.2.2.1 h hh).1
  obtain ⟨th, hth, et⟩ := (hw.2.1 k hk).2.1
  unfold costG
  rw [e, nI_cl8 (by omega), show M 77 k = w 2 k from hM.2.2.1 2 k (by omega) (by omega) hk, show M 80 h = w 5 h from hM.2.2.2.1 5 h (by omega) (by omega) hh, ep, et]
  split
  · exact ⟨2 * p, by omega, nI_mul8 2 p⟩
  · split
    · exact ⟨0, by omega, rfl⟩
    · exact ⟨p + th, by omega, nI_add p th⟩
theorem ft_pay (hw : Wok men inns fleet w) (hM : MW men inns fleet w M) (hpl : ∀ k, k < men → PlN inns (M 88 k)) {day Q k : Nat} (hk : k < men) (h : Ft men day Q M) : Ft men day (Q + 90) (payG k M) := by
  obtain ⟨f1, f2, f3, f4⟩ := h
  unfold payG
  by_cases q : (nI 0 ≤ M 88 k ∧ M 88 k < nI 8)
  · rw [if_pos q]
    obtain ⟨h, hh, e⟩ := PlN_in hw.1.2.1 (hpl k hk) q
    obtain ⟨co, hco, ec⟩ := cost_le hw hM hk hh e
    obtain ⟨cn, hcn, en⟩ := f3 k hk
    have hi := hw.1.2.1
    have hp : ∃ pd, pd ≤ cn ∧ paidG k M = nI pd := by
      unfold paidG
      rw [ec, en]
      by_cases z : nI co < nI cn
      · rw [if_pos z]
        rw [nI_lt8 (by omega) (by omega)] at z
        exact ⟨co, by omega, rfl⟩
      · rw [if_neg z]
        exact ⟨cn, Nat.le_refl _, rfl⟩
    obtain ⟨pd, hpd, ep⟩ := hp
    rw [e, nI_cl8 (by omega), ep, en]
    refine ⟨fun i hi => ?_, fun h' hh' => ?_, fun i hi => ?_, fun i hi => ?_⟩
    · simp [up_ap]
      simpa using f1 i hi
    · by_cases z : h' = h
      · subst z
        obtain ⟨q2, hq2, e2⟩ := f2 h' hh'
        simp [up_ap]
        exact ⟨q2 + pd, by omega, by rw [e2, nI_add]⟩
      · simp [up_ap, z]
        obtain ⟨q2, hq2, e2⟩ := f2 h' hh'
        exact ⟨q2, by omega, e2⟩
    · by_cases z : i = k
      · subst z
        simp [up_ap]
        exact ⟨cn - pd, by omega, nI_sub hpd⟩
      · simp [up_ap, z]
        exact f3 i hi
    · simp [up_ap]
      exact f4 i hi
  · rw [if_neg q]
    exact ⟨f1, fun h hh => by obtain ⟨q2, hq2, e⟩ := f2 h hh; exact ⟨q2, by omega, e⟩, f3, f4⟩
theorem ft_mono {day day2 Q Q2 : Nat} (h : Ft men day Q M) (hd : day ≤ day2) (hq : Q ≤ Q2) : Ft men day2 Q2 M := by
  obtain ⟨f1, f2, f3, f4⟩ := h
  refine ⟨fun k hk => ?_, fun h hh => by obtain ⟨q2, hq2, e⟩ := f2 h hh; exact ⟨q2, by omega, e⟩, f3, f4⟩
  rcases f1 k hk with f | ⟨d, s, h1, h2, h3⟩
  · exact Or.inl f
  · exact Or.inr ⟨d, s, by omega, h2, h3⟩
theorem ft_beg (hw : Wok men inns fleet w) (hM : MW men inns fleet w M) : Ft men 0 0 (mBegM men M) := by
  obtain ⟨b1, b2, b3, b4, b5⟩ := beg_model hw hM
  have h8 := hw.1.1
  refine ⟨fun k hk => Or.inl ⟨(b2 k hk).2.2.2, fun ⟨s, hs, e⟩ => ?_⟩, fun h hh => ⟨0, Nat.le_refl _, b3 h hh⟩, fun k hk => ?_, fun s hs => ⟨0, by decide, (b4 s hs).2.2, fun k hk => ⟨fun z => ?_, fun z => ?_⟩⟩⟩
  · rw [(b2 k hk).2.2.1] at e
    unfold plV at e
    have := (Wlo hw hk).2
    split at e
    · rw [nI_eq8 (by omega) (by omega)] at e
      omega
    · have e3 := e.symm
      rw [nI_ne1 (by omega)] at e3
      exact e3
  · obtain ⟨a, ha, e⟩ := (hw.2.1 k hk).2.2.1
    rw [(b2 k hk).2.1, e]
    exact ⟨10 * a, by omega, nI_mul8 10 a⟩
  · rw [Nat.zero_testBit] at z
    cases z
  · obtain ⟨z1, e⟩ := z
    rw [(b2 k z1).2.2.1] at e
    unfold plV at e
    have := (Wlo hw z1).2
    split at e
    · rw [nI_eq8 (by omega) (by omega)] at e
      omega
    · have e3 := e.symm
      rw [nI_ne1 (by omega)] at e3
      exact e3.elim
/-- the canonical run, with all that is known of it -/
theorem month_ft (hw : Wok men inns fleet w) : ∀ n, n ≤ 90 → MW men inns fleet w (it n (goesM men fleet) (mBegM men (eM men inns fleet w))) ∧ (∀ k, k < men → PlN inns (it n (goesM men fleet) (mBegM men (eM men inns fleet w)) 88 k)) ∧ Fr3 fleet w n 0 (it n (goesM men fleet) (mBegM men (eM men inns fleet w))) ∧ Ft men n (n * 5040) (it n (goesM men fleet) (mBegM men (eM men inns fleet w))) := by
  intro n
  induction n with
  | zero =>
    intro _
    have h := sim_month (Or.inl ⟨rfl, rfl⟩) hw eC_ok eM_ok 0 (by omega)
    exact ⟨h.2.1, h.2.2.1.2.2.2.2, h.2.2.2, ft_beg hw eM_ok⟩
  | succ n ih =>
    intro hn
    have h := sim_month (Or.inl ⟨rfl, rfl⟩) hw eC_ok (eM_ok (men := men) (inns := inns) (fleet := fleet) (w := w)) (n + 1) hn
    refine ⟨h.2.1, h.2.2.1.2.2.2.2, h.2.2.2, ?_⟩
    have h0 := sim_month (Or.inl ⟨rfl, rfl⟩) hw eC_ok (eM_ok (men := men) (inns := inns) (fleet := fleet) (w := w)) n (by omega)
    have f0 := (ih (by omega)).2.2.2
    have hf := hw.1.2.2
    have h8 := hw.1.1
    rw [it_s]
    generalize it n (goesM men fleet) (mBegM men (eM men inns fleet w)) = X at *
    generalize parM 30 8 men fleet n (eC men inns fleet w) = C at *
    unfold goesM
    have s1 := it_sim (shipF 30 8 men n) (shipG men n) (fun s m M => Jn 30 8 men inns fleet w n s m M ∧ Ft men (n + 1) (n * 5040 + s * 720) M) fleet (fun s hs m M h => ⟨sim_ship (Or.inl ⟨rfl, rfl⟩) hw hs (by omega) h.1, ft_mono (ft_ship hw h.1.2.1 (by omega) hs h.1.2.2.2 h.2) (Nat.le_refl _) (by omega)⟩) C X ⟨h0, ft_mono f0 (by omega) (by omega)⟩ fleet (Nat.le_refl _)
    obtain ⟨⟨j1, j2, j3, j4⟩, f1⟩ := s1
    have s2 := it_sim (payM 30 8) payG (fun k m M => (CW 8 men inns fleet w m ∧ MW men inns fleet w M ∧ Sim 30 men inns m M) ∧ Ft men (n + 1) (n * 5040 + fleet * 720 + k * 90) M) men (fun k hk m M h => ⟨⟨pay_c (Or.inl ⟨rfl, rfl⟩) h.1.1, pay_m h.1.2.1, sim_pay hw.1.2.1 h.1.1 h.1.2.1 h.1.2.2 hk⟩, ft_mono (ft_pay hw h.1.2.1 h.1.2.2.2.2.2.2 hk h.2) (Nat.le_refl _) (by omega)⟩) _ _ ⟨⟨j1, j2, j3⟩, ft_mono f1 (Nat.le_refl _) (by omega)⟩ men (Nat.le_refl _)
    exact ft_mono s2.2 (Nat.le_refl _) (by omega)
theorem rs_ft (hw : Wok men inns fleet w) {z : Nat} (hz : z < 90) : Ft men (z + 1) 453600 (rs men inns fleet w z) := ft_mono (month_ft hw (z + 1) (by omega)).2.2.2 (Nat.le_refl _) (by omega)
theorem rs_pl (hw : Wok men inns fleet w) {z : Nat} (hz : z < 90) : ∀ k, k < men → PlN inns (rs men inns fleet w z 88 k) := (month_ft hw (z + 1) (by omega)).2.1
theorem rs_mw (hw : Wok men inns fleet w) {z : Nat} (hz : z < 90) : MW men inns fleet w (rs men inns fleet w z) := (month_ft hw (z + 1) (by omega)).1
end FACTS
