section CFT
variable {S : AScr} {m m2 m3 M X : AMem} {w : AMem} {N : Nat → Nat} {B : Nat → Nat → Nat}
theorem CWn_abs {a b : Int32} (h : CWn N B (wA N B a) m) : CWn N B (wA N B b) (up m 19 4 b) := by
  have := CW_abs (v := b) h
  rw [wA_up] at this
  exact this
theorem fate_ok (h : Bs N B m) (hc : Ca N B m) : Kc m (fateM (mN N B) (fN N B) m) ∧ Ca N B (fateM (mN N B) (fN N B) m) ∧ FatesOK N B (fateM (mN N B) (fN N B) m) := by
  unfold fateM
  by_cases q : m 0 10 = nI 0
  · rw [if_pos q]
    have h8 := (Bs_m8 h).1
    have h6 := (Bs_m8 h).2.2
    have p64 := p2_le h6
    have key := it_I (fateF (mN N B) (fN N B)) (fun k s => (∃ x, CWn N B (wA N B x) s) ∧ (∀ a j, (a < 19 ∨ (30 ≤ a ∧ a < 44) ∨ 59 < a) → s a j = m a j) ∧ ∀ a, a < k → ∀ x, x < mN N B → s 58 (a * 8 + x) = RR N B (wA N B (nI a)) 29 93 x) (2 ^ fN N B) (fun k hk s ⟨⟨x, h1⟩, h2, h3⟩ => by
      have hW2 : Wkn N B (wA N B (nI k)) := Bs_ok h (by omega)
      have hC2 : CWn N B (wA N B (nI k)) (up s 19 4 (nI k)) := CWn_abs h1
      obtain ⟨o1, o2, o3⟩ := or_eq hW2 hC2
      have hr : ∀ a j, (a < 19 ∨ (30 ≤ a ∧ a < 44) ∨ 57 < a) → runM 44 19 (mN N B) (fN N B) (up s 19 4 (nI k)) a j = s a j := fun a j ha => by
        rw [runM_t (by omega), up_row (by omega)]
      unfold fateF
      dsimp only
      generalize runM 44 19 (mN N B) (fN N B) (up s 19 4 (nI k)) = Y at *
      refine ⟨⟨nI k, CW_keep o2 (fun a j b1 b2 => by rw [upA_ne (by omega)])⟩, fun a j ha => ?_, fun a ha x hx => ?_⟩
      · rw [upA_ne (by omega), hr a j (by omega)]
        exact h2 a j ha
      · rw [upA_at]
        by_cases z : a = k
        · subst z
          unfold va_cpy
          rw [if_pos (by omega), show 0 + (a * 8 + x - a * 8) = x by omega]
          exact (o1.1 x hx).2.2.2
        · unfold va_cpy
          rw [if_neg (by omega), hr 58 _ (by omega)]
          exact h3 a (by omega) x hx) (becomeM m) ⟨⟨nI 0, bec_n h⟩, fun a j ha => Ko_bec a j (by omega), fun a ha => by omega⟩ _ (Nat.le_refl _)
    obtain ⟨_, k2, k3⟩ := key
    generalize it (2 ^ fN N B) (fateF (mN N B) (fN N B)) (becomeM m) = Y at *
    have row : ∀ a, (a < 19 ∨ (30 ≤ a ∧ a < 44) ∨ 59 < a) → a ≠ 0 → up Y 0 10 (nI 1) a = m a := fun a ha h0 => funext fun j => by rw [up_row h0]; exact k2 a j ha
    have hF : FatesOK N B (up Y 0 10 (nI 1)) := by
      unfold FatesOK
      rw [up_row (by decide)]
      exact k3
    refine ⟨fun a j => ?_, ⟨?_, Or.inr hF⟩, hF⟩
    · by_cases z : a = 0 ∧ j = 10
      · exact Or.inl ⟨z.1, Or.inr z.2⟩
      · rw [up_ap, if_neg z]
        by_cases y : a < 19 ∨ (30 ≤ a ∧ a < 44) ∨ 59 < a
        · exact Or.inr (Or.inr (k2 a j y))
        · exact Or.inr (Or.inl (by omega))
    · unfold DaysOK Sim
      rw [up_off (by decide), k2 0 9 (by omega), row (30 + 1) (by omega) (by omega), row (30 + 2) (by omega) (by omega), row (30 + 3) (by omega) (by omega), row (30 + 4) (by omega) (by omega), row (30 + 5) (by omega) (by omega), row (30 + 7) (by omega) (by omega), row (30 + 8) (by omega) (by omega), row (30 + 9) (by omega) (by omega), row 30 (by omega) (by omega), row 40 (by omega) (by omega), row 41 (by omega) (by omega), row 42 (by omega) (by omega), row 43 (by omega) (by omega)]
      exact hc.1
  · rw [if_neg q]
    exact ⟨Kc_r, hc, hc.2.resolve_left q⟩
/-- the mask of those left out -/
def mkN (p : Nat × Nat × Nat) : Nat := if p.1 = 0 then 0 else if p.1 = 1 then 2 ^ p.2.1 else 2 ^ p.2.1 ||| 2 ^ p.2.2
theorem fewA_e {x fl : Nat} {L : Nat → Int32} (hL : ∀ a, a < 2 ^ fl → M 58 (a * 8 + x) = L a) : ∀ r a, a + r ≤ fl → fewA x M r a = (leA L r a).map (fun a => 2 ^ a) := by
  intro r
  induction r with
  | zero => intro a _; rfl
  | succ r ih =>
    intro a ha
    unfold fewA leA
    have hlt : 2 ^ a < 2 ^ fl := Nat.pow_lt_pow_right (by decide) (by omega)
    rw [hL _ hlt, ih (a + 1) (by omega)]
    split <;> rfl
theorem or_lt {a b fl : Nat} (ha : a < fl) (hb : b < fl) : 2 ^ a ||| 2 ^ b < 2 ^ fl := Nat.or_lt_two_pow (Nat.pow_lt_pow_right (by decide) ha) (Nat.pow_lt_pow_right (by decide) hb)
theorem fewC_e {x fl a : Nat} {L : Nat → Int32} (ha : a < fl) (hL : ∀ a, a < 2 ^ fl → M 58 (a * 8 + x) = L a) : ∀ r b, b + r ≤ fl → fewC x M a r b = (leC L a r b).map (fun b => 2 ^ a ||| 2 ^ b) := by
  intro r
  induction r with
  | zero => intro a _; rfl
  | succ r ih =>
    intro b hb
    unfold fewC leC
    rw [hL _ (or_lt ha (by omega)), ih (b + 1) (by omega)]
    split <;> rfl
theorem fewB_e {x fl : Nat} {L : Nat → Int32} (hL : ∀ a, a < 2 ^ fl → M 58 (a * 8 + x) = L a) : ∀ r a, a + r ≤ fl → fewB x M fl r a = (leB L fl r a).map (fun p => 2 ^ p.1 ||| 2 ^ p.2) := by
  intro r
  induction r with
  | zero => intro a _; rfl
  | succ r ih =>
    intro a ha
    unfold fewB leB
    rw [fewC_e (by omega) hL _ _ (by omega), ih (a + 1) (by omega)]
    cases leC L a (fl - (a + 1)) (a + 1) with
    | none => rfl
    | some b => rfl
theorem fewV_e {x fl : Nat} {L : Nat → Int32} (hL : ∀ a, a < 2 ^ fl → M 58 (a * 8 + x) = L a) : fewV x M fl = (leN L fl).map mkN := by
  unfold fewV leN
  rw [hL 0 (Nat.pow_pos (by decide)), fewA_e hL fl 0 (by omega), fewB_e hL fl 0 (by omega)]
  split
  · rfl
  · cases leA L fl 0 with
    | some a => rfl
    | none =>
      cases leB L fl fl 0 with
      | some p => rfl
      | none => rfl
theorem mask0 : popM (nI 0) = nI 0 := by decide +kernel
theorem mask1 : ∀ a, a < 6 → popM (nI (2 ^ a)) = nI 1 ∧ ntzM (nI (2 ^ a)) = nI a := by decide +kernel
theorem mask2 : ∀ b, b < 6 → ∀ a, a < b → popM (nI (2 ^ a ||| 2 ^ b)) = nI 2 ∧ ntzM (nI (2 ^ a ||| 2 ^ b)) = nI a ∧ nI 31 - nlzM (nI (2 ^ a ||| 2 ^ b)) = nI b := by decide +kernel
theorem leN_lt {L : Nat → Int32} {fl n a b : Nat} (h : leN L fl = some (n, a, b)) : (n = 0) ∨ (n = 1 ∧ a < fl) ∨ (n = 2 ∧ a < b ∧ b < fl) := by
  unfold leN at h
  split at h
  · cases h; exact Or.inl rfl
  · split at h
    · rename_i c hc
      cases h
      have := leA_lt _ _ hc
      exact Or.inr (Or.inl ⟨rfl, by omega⟩)
    · split at h
      · rename_i p hp
        cases h
        have := leB_lt _ _ hp
        exact Or.inr (Or.inr ⟨rfl, this.2.1, this.2.2⟩)
      · cases h
def aLeave (N : Nat → Nat) (B : Nat → Nat → Nat) (x i : Int32) : Int32 := if (nI 0 ≤ x ∧ x < nI (mN N B)) ∧ (¬ i < -1 ∧ i < nI 2) then leV i (leN (stL N B x.toNatClampNeg) (fN N B)) else -2
theorem i3 {i : Int32} (h : ¬ i < -1 ∧ i < nI 2) : i = -1 ∨ i = nI 0 ∨ i = nI 1 := by
  rw [fa2_lt, fa2_lt, show (-1 : Int32).toInt = -1 by decide, nI_toI (by omega)] at h
  rcases (show i.toInt = -1 ∨ i.toInt = 0 ∨ i.toInt = 1 by omega) with z | z | z
  · exact Or.inl ((fa2_eq _ _).mpr (z.trans (by decide)))
  · exact Or.inr (Or.inl ((fa2_eq _ _).mpr (z.trans (by decide))))
  · exact Or.inr (Or.inr ((fa2_eq _ _).mpr (z.trans (by decide))))
theorem leave_e {L : Nat → Int32} {fl : Nat} {i : Int32} (h6 : fl ≤ 6) (hi : i = -1 ∨ i = nI 0 ∨ i = nI 1) : leaveV i ((leN L fl).map mkN) = leV i (leN L fl) := by
  cases q : leN L fl with
  | none => rfl
  | some p =>
    obtain ⟨n, a, b⟩ := p
    show leaveV i (some (mkN (n, a, b))) = leV i (some (n, a, b))
    have n0 : ¬ nI 0 = -1 := by decide
    have n1 : ¬ nI 1 = -1 := by decide
    rcases leN_lt q with rfl | ⟨rfl, ha⟩ | ⟨rfl, hab, hb⟩
    · rw [show mkN (0, a, b) = 0 from rfl]
      unfold leaveV leV
      dsimp only
      rw [mask0]
      rcases hi with rfl | rfl | rfl
      · rw [if_pos rfl, if_pos rfl]
      · rw [if_neg n0, if_neg n0, if_neg (by decide), if_neg (by decide)]
      · rw [if_neg n1, if_neg n1, if_neg (by decide), if_neg (by decide)]
    · rw [show mkN (1, a, b) = 2 ^ a from rfl]
      obtain ⟨m1, m2⟩ := mask1 a (by omega)
      unfold leaveV leV
      dsimp only
      rw [m1, m2]
      rcases hi with rfl | rfl | rfl
      · rw [if_pos rfl, if_pos rfl]
      · have z01 : nI 0 < nI 1 := by decide
        have z00 : nI 0 = nI 0 := rfl
        rw [if_neg n0, if_neg n0, if_pos z01, if_pos z01, if_pos z00, if_pos z00]
      · rw [if_neg n1, if_neg n1, if_neg (by decide), if_neg (by decide)]
    · rw [show mkN (2, a, b) = 2 ^ a ||| 2 ^ b from rfl]
      obtain ⟨m1, m2, m3⟩ := mask2 b (by omega) a hab
      unfold leaveV leV
      dsimp only
      rw [m1, m2, m3]
theorem c_leave (h : Bs N B m) (hc : Ca N B m) {x i : Int32} : CR S N B 57 [some (.ref 0), some (.int x), some (.int i), none, none] m (.int (aLeave N B x i)) := by
  have e := fun (f : Nat) (Rt : Option Value → AMem → Prop) => s_leave (S := S) (f := f + 3) (Rt := Rt) (Bs_TS h) (x := x) (i := i)
  have h8 := (Bs_m8 h).1
  unfold aLeave
  by_cases q : (nI 0 ≤ x ∧ x < nI (mN N B)) ∧ (¬ i < -1 ∧ i < nI 2)
  · obtain ⟨k, hk, rfl⟩ := P_nI q.1 (by omega)
    have hc8 : (nI k).toNatClampNeg = k := nI_cl8 (by omega)
    obtain ⟨r1, r2, r3⟩ := fate_ok h hc
    refine ⟨_, r1, r2, fun f Rt => (e f Rt).trans ?_⟩
    rw [if_pos q, if_pos q, hc8, fewV_e (L := stL N B k) (fun a ha => r3 a ha k hk), leave_e (Bs_m8 h).2.2 (i3 q.2)]
  · rw [if_neg q]
    exact CR_same hc (fun f Rt => (e f Rt).trans (by rw [if_neg q]))
/-- sailing by a day -/
theorem goes_93 (hw : Wok (mN N B) (iN N B) (fN N B) w) {X : AMem} {n : Nat} (hn : n < 100) (hM : MW (mN N B) (iN N B) (fN N B) w X) (hF : Fr3 (fN N B) w n 0 X) (hX : Ft (mN N B) n 1000000 X) {k : Nat} (hk : k < mN N B) : goesM (mN N B) (fN N B) n X 93 k = X 93 k ∨ (X 93 k = -1 ∧ goesM (mN N B) (fN N B) n X 93 k = nI n) := by
  unfold goesM
  rw [it_row (fun k m => payG_row (by omega))]
  have h8 := hw.1.1
  have hf := hw.1.2.2
  have key := it_I (shipG (mN N B) n) (fun s Y => (MW (mN N B) (iN N B) (fN N B) w Y ∧ Fr3 (fN N B) w n s Y) ∧ (Y 93 k = X 93 k ∨ (X 93 k = -1 ∧ Y 93 k = nI n)) ∧ (∀ j, j < mN N B → Y 93 j = -1 ∨ ¬ ((nI 0 ≤ Y 88 j ∧ Y 88 j < nI 8)))) (fN N B) (fun s hs Y ⟨⟨a1, a2⟩, a3, a4⟩ => by
    refine ⟨⟨MW_keep a1 (fun j hj => shipG_73 hj) (fun a h1 h2 => shipG_row (by omega)), fun i hi hq => ?_⟩, ?_⟩
    · have old := a2 i hi (by omega)
      by_cases z : i = s
      · subst z
        have hno : ¬ (Y 82 i = nI n ∧ ¬ bitI (Y 73 16) i = true) := by
          intro y
          have e7M : Y 82 i = w 7 i := a1.2.2.2.2 7 i (by omega) (by omega) hs
          have e := ((Wti hw hs).1.symm.trans e7M.symm).trans y.1
          have hl := (Wti hw hs).2
          rw [nI_eq8 (by omega) (by omega)] at e
          omega
        unfold shipG
        rw [if_neg hno]
        exact old
      · unfold shipG
        split
        · rw [comes_9 (by omega) z, comes_9 (by omega) z, comes_92 z]
          exact old
        · exact old
    · unfold shipG
      split
      · rename_i hcm
        have ht : tiN w s = n := by
          have e7M : Y 82 s = w 7 s := a1.2.2.2.2 7 s (by omega) (by omega) hs
          have := ((Wti hw hs).1.symm.trans e7M.symm).trans hcm.1
          have hl := (Wti hw hs).2
          rw [nI_eq8 (by omega) (by omega)] at this
          exact this
        obtain ⟨z0, z1, z2⟩ := a2 s hs (by omega)
        obtain ⟨c, c1, hin, hS1, hS2, hS3, hS4⟩ := comes_sl (day := nI n) h8 z0 z1
        refine ⟨?_, fun j hj => ?_⟩
        · rw [(hS2 k hk).2.2]
          by_cases q : k < mN N B ∧ c.testBit k = true
          · rw [if_pos q]
            have hm1 : Y 93 k = -1 := (a4 k hk).resolve_right (fun z => z (hin k (by omega) q.2).2)
            rcases a3 with b | ⟨b1, b2⟩
            · exact Or.inr ⟨b.symm.trans hm1, rfl⟩
            · rw [hm1] at b2
              have b3 := b2.symm
              rw [nI_ne1 (by omega)] at b3
              exact b3.elim
          · rw [if_neg q]
            exact a3
        · obtain ⟨g1, g2, g3⟩ := hS2 j hj
          rw [g2, g3]
          by_cases q : j < mN N B ∧ c.testBit j = true
          · rw [if_pos q, if_pos q]
            refine Or.inr (fun z => ?_)
            have := z.2
            rw [nI_lt8 (by omega) (by omega)] at this
            omega
          · rw [if_neg q, if_neg q]
            exact a4 j hj
      · exact ⟨a3, a4⟩) X ⟨⟨hM, hF⟩, Or.inl rfl, fun j hj => by
        rcases hX.1 j hj with b | ⟨d, s, b1, b2, b3, b4⟩
        · exact Or.inl b.1
        · refine Or.inr (fun z => ?_)
          have := z.2
          rw [b4, nI_lt8 (by omega) (by omega)] at this
          omega⟩ (fN N B) (Nat.le_refl _)
  exact key.2.1
theorem sail_by (hw : Wkn N B w) {k z : Nat} (hk : k < mN N B) : ∀ r, z + r < 90 → (RR N B w z 93 k = -1 → RR N B w (z + r) 93 k = -1 ∨ ∃ d, z < d ∧ d < 90 ∧ RR N B w (z + r) 93 k = nI d) ∧ (¬ RR N B w z 93 k = -1 → RR N B w (z + r) 93 k = RR N B w z 93 k) := by
  intro r
  induction r with
  | zero => intro _; exact ⟨Or.inl, fun _ => rfl⟩
  | succ r ih =>
    intro hr
    obtain ⟨i1, i2⟩ := ih (by omega)
    have hm := month_ft hw (z + r + 1) (by omega)
    have st : RR N B w (z + (r + 1)) 93 k = RR N B w (z + r) 93 k ∨ (RR N B w (z + r) 93 k = -1 ∧ RR N B w (z + (r + 1)) 93 k = nI (z + r + 1)) := goes_93 hw (n := z + r + 1) (by omega) hm.1 hm.2.2.1 (ft_mono hm.2.2.2 (Nat.le_refl _) (by omega)) hk
    refine ⟨fun h => ?_, fun h => ?_⟩
    · rcases st with s | ⟨s1, s2⟩
      · rw [s]
        exact i1 h
      · exact Or.inr ⟨z + r + 1, by omega, by omega, s2⟩
    · rcases st with s | ⟨s1, s2⟩
      · rw [s]
        exact i2 h
      · rw [i2 h] at s1
        exact absurd s1 h
theorem by_day (hw : Wkn N B w) {k z : Nat} (hk : k < mN N B) (hz : z < 30) : (¬ RR N B w 29 93 k = -1 ∧ ¬ nI z < RR N B w 29 93 k) = ¬ RR N B w z 93 k = -1 := by
  obtain ⟨s1, s2⟩ := sail_by hw hk (z := z) (29 - z) (by omega)
  rw [show z + (29 - z) = 29 by omega] at s1 s2
  refine propext ⟨fun h => fun y => ?_, fun h => ?_⟩
  · rcases s1 y with a | ⟨d, d1, d2, d3⟩
    · exact h.1 a
    · apply h.2
      rw [d3, nI_lt8 (by omega) (by omega)]
      exact d1
  · rw [s2 h]
    refine ⟨h, fun y => ?_⟩
    rcases rs_sail hw (z := z) (by omega) hk with a | ⟨d, d1, d2⟩
    · exact h a
    · rw [d2, nI_lt8 (by omega) (by omega)] at y
      omega
end CFT
