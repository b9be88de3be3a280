section CPL
variable {S : AScr} {m m2 m3 M X : AMem} {w : AMem} {N : Nat → Nat} {B : Nat → Nat → Nat}
/-- only the other town and its month (and the answers kept beside) have changed -/
def Ko (m m2 : AMem) : Prop := ∀ a j, (a < 19 ∨ (30 ≤ a ∧ a < 44) ∨ a = 58 ∨ 59 < a) → m2 a j = m a j
theorem Ko_c (h : Ko m m2) : Kc m m2 := Kc_rows (fun a j h1 h2 => h a j (by omega))
theorem Ko_a (h : Ko m m2) (hc : Ca N B m) : Ca N B m2 := by
  have row : ∀ a, (a < 19 ∨ (30 ≤ a ∧ a < 44) ∨ a = 58 ∨ 59 < a) → m2 a = m a := fun a ha => funext fun j => h a j ha
  unfold Ca DaysOK FatesOK Sim
  rw [row 0 (by omega), row (30 + 1) (by omega), row (30 + 2) (by omega), row (30 + 3) (by omega), row (30 + 4) (by omega), row (30 + 5) (by omega), row (30 + 7) (by omega), row (30 + 8) (by omega), row (30 + 9) (by omega), row 30 (by omega), row 40 (by omega), row 41 (by omega), row 42 (by omega), row 43 (by omega), row 58 (by omega)]
  exact hc
theorem Ko_r : Ko m m := fun _ _ _ => rfl
theorem Ko_t (h : Ko m m2) (h2 : Ko m2 m3) : Ko m m3 := fun a j ha => (h2 a j ha).trans (h a j ha)
theorem Ko_up {a j : Nat} {v : Int32} (h : (19 ≤ a ∧ a < 30) ∨ (44 ≤ a ∧ a < 58)) : Ko m (up m a j v) := fun a2 j2 ha => by rw [up_row (by omega)]
theorem Ko_bec : Ko m (becomeM m) := fun a j ha => by rw [becomeM_row (by omega)]
theorem Ko_run {men fleet : Nat} : Ko m (runM 44 19 men fleet m) := fun a j ha => runM_t (by omega)
theorem Ko_CR {q : Nat} {a : ALoc} {r : Value} (hc : Ca N B m) (h : Ko m m2) (e : ∀ (f : Nat) (Rt : Option Value → AMem → Prop), T S (f + 9) q 0 a [] m Rt = Rt (some r) m2) : CR S N B q a m r := ⟨m2, Ko_c h, Ko_a h hc, e⟩
def CWn (N : Nat → Nat) (B : Nat → Nat → Nat) (w m : AMem) : Prop := CW 19 (mN N B) (iN N B) (fN N B) w m
/-- the other run of the class gives the month of its town -/
theorem or_eq (hw : Wkn N B w) (h : CWn N B w m) : Sim 44 (mN N B) (iN N B) (runM 44 19 (mN N B) (fN N B) m) (RR N B w 29) ∧ CWn N B w (runM 44 19 (mN N B) (fN N B) m) ∧ ∀ z, z < 30 → ∀ h, h < 8 → runM 44 19 (mN N B) (fN N B) m 57 (8 * z + h) = RR N B w z 89 h :=
  ⟨run_rs (Or.inr ⟨rfl, rfl⟩) hw h, CW_keep h (fun a j h1 h2 => runM_t (by omega)), fun z hz => (behind_rs (Or.inr ⟨rfl, rfl⟩) hw h hz).2⟩
theorem CWn_up {i x : Nat} {v y : Int32} (h : CWn N B (up w i x y) m) (hi : 1 ≤ i ∧ i ≤ 10) : CWn N B (up w i x v) (up m (19 + i) x v) := by
  have := CW_up (x := x) (v := v) h hi
  rw [up_up] at this
  exact this
theorem bec_n (h : Bs N B m) : CWn N B (w0 N B) (becomeM m) := CW_bec h.2.2.1 (Bs_m8 h)
def aPrice (N : Nat → Nat) (B : Nat → Nat → Nat) (x v : Int32) : Int32 := if (nI 0 ≤ x ∧ x < nI (iN N B)) ∧ (nI 0 ≤ v ∧ v < nI 2) then (if v = nI 0 then optI (prP N B x.toNatClampNeg).1 else (prP N B x.toNatClampNeg).2) else -2
theorem c_price (h : Bs N B m) (hc : Ca N B m) {x v : Int32} : CR S N B 54 [some (.ref 0), some (.int x), some (.int v), none, none, none] m (.int (aPrice N B x v)) := by
  have e := fun (f : Nat) (Rt : Option Value → AMem → Prop) => s_price (S := S) (f := f + 3) (Rt := Rt) (Bs_TS h) (x := x) (w := v)
  have h8 := (Bs_m8 h).2.1
  have hw := Bs_ok0 h
  unfold aPrice
  by_cases q : (nI 0 ≤ x ∧ x < nI (iN N B)) ∧ (nI 0 ≤ v ∧ v < nI 2)
  · obtain ⟨k, hk, rfl⟩ := P_nI q.1 (by omega)
    have hc8 : (nI k).toNatClampNeg = k := nI_cl8 (by omega)
    have key := it_sim (priceF (mN N B) (fN N B) k) (fun i (s : Option Nat × Int32) => if s.2 < prV N B k i then (some i, prV N B k i) else s) (fun _ s p => (∃ y, CWn N B (up (w0 N B) 5 k y) s.1) ∧ Ko m s.1 ∧ s.2 = p) 10 (fun i hi s p ⟨⟨y, h1⟩, h2, h3⟩ => by
      have hW2 : Wkn N B (up (w0 N B) 5 k (nI i)) := Wok_up hw (by decide) ⟨hi, by omega, by omega⟩
      have hC2 : CWn N B (up (w0 N B) 5 k (nI i)) (up s.1 24 k (nI i)) := CWn_up (i := 5) h1 (by decide)
      obtain ⟨o1, o2, o3⟩ := or_eq hW2 hC2
      have ko : Ko m (runM 44 19 (mN N B) (fN N B) (up s.1 24 k (nI i))) := Ko_t h2 (Ko_t (Ko_up (by omega)) Ko_run)
      have e49 : runM 44 19 (mN N B) (fN N B) (up s.1 24 k (nI i)) 49 k = prV N B k i := o1.2.1 k (by omega)
      subst h3
      unfold priceF
      dsimp only
      rw [e49]
      split
      · exact ⟨⟨_, o2⟩, ko, rfl⟩
      · exact ⟨⟨_, o2⟩, ko, rfl⟩) (becomeM m, none, -1) (none, -1) ⟨⟨w0 N B 5 k, by rw [up_same]; exact bec_n h⟩, Ko_bec, rfl⟩ 10 (Nat.le_refl _)
    have key : (∃ y, CWn N B (up (w0 N B) 5 k y) (priceE (mN N B) (fN N B) k m).1) ∧ Ko m (priceE (mN N B) (fN N B) k m).1 ∧ (priceE (mN N B) (fN N B) k m).2 = it 10 (fun i (s : Option Nat × Int32) => if s.2 < prV N B k i then (some i, prV N B k i) else s) (none, -1) := key
    have ms := most_sim (p := prV N B k) (n := 10) (fun i hi => by
      obtain ⟨q, hq, e⟩ := rs_took (w := up (w0 N B) 5 k (nI i)) (Wok_up hw (by decide) ⟨hi, by omega, by omega⟩) (z := 29) (by decide) (show k < 8 by omega)
      exact ⟨q, by omega, e⟩)
    refine Ko_CR hc key.2.1 (fun f Rt => (e f Rt).trans ?_)
    rw [if_pos q, if_pos q, hc8, key.2.2, ms.1, (ms.2 (by decide)).1]
    rfl
  · rw [if_neg q]
    exact CR_same hc (fun f Rt => (e f Rt).trans (by rw [if_neg q]))
def aLodge (N : Nat → Nat) (B : Nat → Nat → Nat) (x v : Int32) : Int32 := if (nI 0 ≤ x ∧ x < nI (mN N B)) ∧ (nI 0 ≤ v ∧ v < nI 2) then loA (loP N B x.toNatClampNeg) v else -2
theorem rs_sail (hw : Wkn N B w) {z k : Nat} (hz : z < 90) (hk : k < mN N B) : RR N B w z 93 k = -1 ∨ ∃ d, d < z + 1 ∧ RR N B w z 93 k = nI d := by
  rcases (rs_ft hw hz).1 k hk with h | ⟨d, s, h1, h2, h3, h4⟩
  · exact Or.inl h.1
  · exact Or.inr ⟨d, h1, h3⟩
theorem c_lodge (h : Bs N B m) (hc : Ca N B m) {x v : Int32} : CR S N B 55 [some (.ref 0), some (.int x), some (.int v), none, none, none, none, none] m (.int (aLodge N B x v)) := by
  have e := fun (f : Nat) (Rt : Option Value → AMem → Prop) => s_lodge (S := S) (f := f + 3) (Rt := Rt) (Bs_TS h) (x := x) (w := v)
  have h8 := (Bs_m8 h).1
  have h8i := (Bs_m8 h).2.1
  have hw := Bs_ok0 h
  unfold aLodge
  by_cases q : (nI 0 ≤ x ∧ x < nI (mN N B)) ∧ (nI 0 ≤ v ∧ v < nI 2)
  · obtain ⟨k, hk, rfl⟩ := P_nI q.1 (by omega)
    have hc8 : (nI k).toNatClampNeg = k := nI_cl8 (by omega)
    have key := it_sim (lodgeF (mN N B) (fN N B) k) (loF N B k) (fun _ s p => (∃ y, CWn N B (up (w0 N B) 4 k y) s.1) ∧ Ko m s.1 ∧ s.2.1 = p.1 ∧ (p.1 = none → s.2.2 = -1) ∧ ∀ j, p.1 = some j → (p.2 = nI 99 ∧ s.2.2 = nI 30) ∨ ∃ d, d < 30 ∧ p.2 = nI d ∧ s.2.2 = nI d) (iN N B) (fun i hi s p ⟨⟨y, h1⟩, h2, h3, h4, h5⟩ => by
      have hW2 : Wkn N B (up (w0 N B) 4 k (nI i)) := Wok_up hw (by decide) ⟨by omega, by omega, by omega⟩
      have hC2 : CWn N B (up (w0 N B) 4 k (nI i)) (up s.1 23 k (nI i)) := CWn_up (i := 4) h1 (by decide)
      obtain ⟨o1, o2, o3⟩ := or_eq hW2 hC2
      have ko : Ko m (runM 44 19 (mN N B) (fN N B) (up s.1 23 k (nI i))) := Ko_t h2 (Ko_t (Ko_up (by omega)) Ko_run)
      have e47 : runM 44 19 (mN N B) (fN N B) (up s.1 23 k (nI i)) 47 k = RR N B (up (w0 N B) 4 k (nI i)) 29 88 k := (o1.1 k hk).2.2.1
      have e48 : runM 44 19 (mN N B) (fN N B) (up s.1 23 k (nI i)) 48 k = RR N B (up (w0 N B) 4 k (nI i)) 29 93 k := (o1.1 k hk).2.2.2
      have hsail := rs_sail hW2 (z := 29) (by decide) hk
      have ex : ∃ b c, loB N B k i = b ∧ (if RR N B (up (w0 N B) 4 k (nI i)) 29 93 k = -1 then nI 30 else RR N B (up (w0 N B) 4 k (nI i)) 29 93 k) = c ∧ ((b = nI 99 ∧ c = nI 30) ∨ ∃ d, d < 30 ∧ b = nI d ∧ c = nI d) := by
        refine ⟨_, _, rfl, rfl, ?_⟩
        unfold loB
        rcases hsail with z | ⟨d, hd, z⟩
        · rw [if_pos z, if_pos z]
          exact Or.inl ⟨rfl, rfl⟩
        · have hn : ¬ RR N B (up (w0 N B) 4 k (nI i)) 29 93 k = -1 := fun y => by
            rw [z, nI_ne1 (by omega)] at y
            exact y
          rw [if_neg hn, if_neg hn]
          exact Or.inr ⟨d, by omega, z, z⟩
      obtain ⟨b, c, eb, ec, hbc⟩ := ex
      unfold lodgeF loF
      dsimp only
      rw [e47, e48, ec]
      generalize runM 44 19 (mN N B) (fN N B) (up s.1 23 k (nI i)) = Y at *
      by_cases z : RR N B (up (w0 N B) 4 k (nI i)) 29 88 k = -1
      · rw [if_neg (fun y => y.1 z), if_pos z]
        exact ⟨⟨_, o2⟩, ko, h3, h4, h5⟩
      · rw [if_neg z]
        obtain ⟨p1, p2⟩ := p
        unfold prF
        rw [eb]
        dsimp only at h3 h4 h5 ⊢
        cases p1 with
        | none =>
          have h4 := h4 rfl
          have hlt : s.2.2 < c := by
            rw [h4, fa2_lt, show (-1 : Int32).toInt = -1 by decide]
            rcases hbc with ⟨_, rfl⟩ | ⟨d, hd, _, rfl⟩
            · decide
            · rw [nI_toI (by omega)]; omega
          rw [if_pos ⟨z, hlt⟩]
          exact ⟨⟨_, o2⟩, ko, rfl, fun y => (by cases y), fun j hj => hbc⟩
        | some j =>
          have h5 := h5 j rfl
          have hiff : (s.2.2 < c) ↔ (p2 < b) := by
            rcases h5 with ⟨a1, a2⟩ | ⟨d, hd, a1, a2⟩ <;> rcases hbc with ⟨c1, c2⟩ | ⟨d2, hd2, c1, c2⟩ <;> rw [a1, a2, c1, c2]
            · decide
            · rw [nI_lt8 (by omega) (by omega), nI_lt8 (by omega) (by omega)]
              omega
            · rw [nI_lt8 (by omega) (by omega), nI_lt8 (by omega) (by omega)]
              omega
          by_cases y : p2 < b
          · rw [if_pos ⟨z, hiff.mpr y⟩]
            dsimp only
            rw [if_pos y]
            exact ⟨⟨_, o2⟩, ko, rfl, fun y => (by cases y), fun j hj => hbc⟩
          · rw [if_neg (fun x => y (hiff.mp x.2))]
            dsimp only
            rw [if_neg y]
            exact ⟨⟨_, o2⟩, ko, h3, fun y => (by cases y), fun j hj => h5⟩) (becomeM m, none, -1) (none, nI 0) ⟨⟨w0 N B 4 k, by rw [up_same]; exact bec_n h⟩, Ko_bec, rfl, fun _ => rfl, fun j hj => by cases hj⟩ (iN N B) (Nat.le_refl _)
    obtain ⟨_, k2, k3, k4, k5⟩ := key
    have hE : it (iN N B) (lodgeF (mN N B) (fN N B) k) (becomeM m, none, -1) = lodgeE (mN N B) (iN N B) (fN N B) k m := rfl
    have hP : it (iN N B) (loF N B k) (none, nI 0) = loP N B k := rfl
    rw [hE] at k2 k3 k4 k5
    rw [hP] at k3 k4 k5
    refine Ko_CR hc k2 (fun f Rt => (e f Rt).trans ?_)
    rw [if_pos q, if_pos q, hc8]
    generalize lodgeE (mN N B) (iN N B) (fN N B) k m = s at *
    generalize loP N B k = p at *
    obtain ⟨p1, p2⟩ := p
    unfold loA
    dsimp only at k3 k4 k5 ⊢
    by_cases v0 : v = nI 0
    · rw [if_pos v0, if_pos v0, k3]
    · rw [if_neg v0, if_neg v0]
      cases p1 with
      | none =>
        rw [k4 rfl, if_neg (by decide)]
      | some j =>
        dsimp only
        rcases k5 j rfl with ⟨a1, a2⟩ | ⟨d, hd, a1, a2⟩
        · rw [a1, a2, if_pos rfl, if_pos rfl]
        · have n30 : ¬ nI d = nI 30 := fun z => by rw [nI_eq8 (by omega) (by omega)] at z; omega
          have n99 : ¬ nI d = nI 99 := fun z => by rw [nI_eq8 (by omega) (by omega)] at z; omega
          rw [a1, a2, if_neg n30, if_neg n99]
  · rw [if_neg q]
    exact CR_same hc (fun f Rt => (e f Rt).trans (by rw [if_neg q]))
def aLook (N : Nat → Nat) (B : Nat → Nat → Nat) (x : Int32) : Int32 := if nI 0 ≤ x ∧ x < nI (fN N B) then optI (lkP N B x.toNatClampNeg 10 0) else -2
theorem c_look (h : Bs N B m) (hc : Ca N B m) {x : Int32} : CR S N B 56 [some (.ref 0), some (.int x), none] m (.int (aLook N B x)) := by
  have e := fun (f : Nat) (Rt : Option Value → AMem → Prop) => s_look (S := S) (f := f + 3) (Rt := Rt) (Bs_TS h) (x := x)
  have h6 := (Bs_m8 h).2.2
  have hw := Bs_ok0 h
  unfold aLook
  by_cases q : nI 0 ≤ x ∧ x < nI (fN N B)
  · obtain ⟨k, hk, rfl⟩ := P_nI q (by omega)
    have hc8 : (nI k).toNatClampNeg = k := nI_cl8 (by omega)
    have key : ∀ r i X, i + r = 10 → (∃ y, CWn N B (up (w0 N B) 10 k y) X) → Ko m X → (lookR (mN N B) (fN N B) k r i X).1 = lkP N B k r i ∧ Ko m (lookR (mN N B) (fN N B) k r i X).2 := by
      intro r
      induction r with
      | zero => intro i X _ _ hk; exact ⟨rfl, hk⟩
      | succ r ih =>
        intro i X hi ⟨y, h1⟩ h2
        have hW2 : Wkn N B (up (w0 N B) 10 k (nI i)) := Wok_up hw (by decide) ⟨by omega, by omega, by omega⟩
        have hC2 : CWn N B (up (w0 N B) 10 k (nI i)) (up X 29 k (nI i)) := CWn_up (i := 10) h1 (by decide)
        obtain ⟨o1, o2, o3⟩ := or_eq hW2 hC2
        have ko : Ko m (runM 44 19 (mN N B) (fN N B) (up X 29 k (nI i))) := Ko_t h2 (Ko_t (Ko_up (by omega)) Ko_run)
        have e53 : runM 44 19 (mN N B) (fN N B) (up X 29 k (nI i)) 53 k = RR N B (up (w0 N B) 10 k (nI i)) 29 92 k := (o1.2.2.1 k (by omega)).2.2
        have esd : soundM 44 19 k (mN N B) (runM 44 19 (mN N B) (fN N B) (up X 29 k (nI i))) = sndP (mN N B) (up (w0 N B) 10 k (nI i)) (RR N B (up (w0 N B) 10 k (nI i)) 29 92 k) := by
          rw [sound_snd o2, show runM 44 19 (mN N B) (fN N B) (up X 29 k (nI i)) (44 + 9) k = RR N B (up (w0 N B) 10 k (nI i)) 29 92 k from e53]
        obtain ⟨b, hb, eb, _⟩ := rs_set hW2 (z := 29) (by decide) (show k < 6 by omega)
        have ep : popM (RR N B (up (w0 N B) 10 k (nI i)) 29 92 k) = onesM (RR N B (up (w0 N B) 10 k (nI i)) 29 92 k) := by rw [eb]; exact pop_all b hb
        unfold lookR lkP
        dsimp only
        rw [esd, e53, ep]
        generalize runM 44 19 (mN N B) (fN N B) (up X 29 k (nI i)) = Y at *
        split
        · exact ⟨rfl, ko⟩
        · exact ih (i + 1) Y (by omega) ⟨_, o2⟩ ko
    obtain ⟨k1, k2⟩ := key 10 0 (becomeM m) rfl ⟨w0 N B 10 k, by rw [up_same]; exact bec_n h⟩ Ko_bec
    refine Ko_CR hc k2 (fun f Rt => (e f Rt).trans ?_)
    rw [if_pos q, if_pos q, hc8, k1]
  · rw [if_neg q]
    exact CR_same hc (fun f Rt => (e f Rt).trans (by rw [if_neg q]))
end CPL
