section SIME
variable {men inns fleet d t : Nat} {w m M : AMem}
theorem it_stable {F : Nat → AMem → AMem} {n : Nat} {M : AMem} (h : ∀ i, F i (it n F M) = it n F M) : ∀ r, it (n + r) F M = it n F M := by
  intro r
  induction r with
  | zero => rfl
  | succ r ih =>
    show F (n + r) (it (n + r) F M) = it n F M
    rw [ih]
    exact h _
theorem pick_none {s n : Nat} (h : nextM men s M = none) : pickF men s n M = M := by
  unfold pickF
  rw [h]
theorem next_full {s : Nat} (h8 : men ≤ 8) (e : M 90 s = nI 255) : nextM men s M = none := by
  cases q : nextM men s M with
  | none => rfl
  | some k =>
    have h1 := next_bit h8 (by decide) e q
    have h2 := next_lt q
    rw [tb255 k (by omega)] at h1
    cases h1
theorem pick_some {s n k : Nat} (h : nextM men s M = some k) : pickF men s n M = up (up M 90 s (M 90 s ||| nI 1 <<< (nI k &&& 31))) 91 s (M 91 s ||| (if nI n < M 85 s ∧ nI 1 < M 76 k then nI 1 <<< (nI k &&& 31) else nI 0)) := by
  unfold pickF
  rw [h]
theorem MW_pick {s n : Nat} (hM : MW men inns fleet w M) : MW men inns fleet w (it n (pickF men s) M) := MW_keep hM (fun j _ => by rw [it_row (fun k m => pick_row (by omega))]) (fun a _ _ => it_row (fun k m => pick_row (by omega)) n M)
theorem dep_sim (hd : dd d t) (hw : Wok men inns fleet w) (hM : MW men inns fleet w M) {s nd : Nat} {day y : Int32} (hs : s < fleet) (hy : nI 10 * (if w 0 3 < w 9 s then w 0 3 else w 9 s) = y) (hnd : w 8 s = nI nd) (hn100 : nd < 100) : ∀ (r n : Nat) (m : AMem) (b a c : Nat), n + r = 8 → n ≤ nd → CW t men inns fleet w m → Dst d men s day y M b a c m → cardN b = n → it n (pickF men s) M 90 s = nI b → it n (pickF men s) M 91 s = nI a → ∃ b a c, Dst d men s day y M b a c (depL d t men s day r n m) ∧ it nd (pickF men s) M 90 s = nI b ∧ it nd (pickF men s) M 91 s = nI a := by
  have htd : t + 10 < d := by rcases hd with ⟨rfl, rfl⟩ | ⟨rfl, rfl⟩ <;> omega
  have h8 := hw.1.1
  have hf := hw.1.2.2
  have stop : ∀ n, n ≤ nd → nextM men s (it n (pickF men s) M) = none → it nd (pickF men s) M = it n (pickF men s) M := fun n hn h => by
    have := it_stable (F := pickF men s) (n := n) (M := M) (fun i => pick_none h) (nd - n)
    rw [show n + (nd - n) = nd by omega] at this
    exact this
  have rows : ∀ n a, a ≠ 90 ∧ a ≠ 91 → it n (pickF men s) M a = M a := fun n a ha => it_row (fun k m => pick_row ha) n M
  intro r
  induction r with
  | zero =>
    intro n m b a c hn hle hc hD hcard e1 e2
    have hb := card_8 b hD.1.1 (by omega)
    subst hb
    rw [stop n hle (next_full h8 e1)]
    exact ⟨255, a, c, hD, e1, e2⟩
  | succ r ih =>
    intro n m b a c hn hle hc hD hcard e1 e2
    unfold depL
    have w8 : m (t + 8) s = w 8 s := hc.2.2.2.2 8 s (by omega) (by omega) hs
    have hlt : (nI n < nI nd) = (n < nd) := nI_lt8 (by omega) (by omega)
    rw [w8, hnd]
    by_cases q : n < nd
    · rw [if_pos (hlt.mpr q), hD.2.2.2.2.1.1]
      have hdn : (deepM d men (nI b) m).1 = nextM men s (it n (pickF men s) M) := deep_next h8 hD.1.1 e1 (fun k hk hbk => by
        have hck : c.testBit k = false := by rw [hD.2.1 k (by omega), hbk]; rfl
        have := hD.2.2.2.2.2.1 k hk
        rw [hck] at this
        rw [rows n 88 (by decide), rows n 86 (by decide)]
        exact ⟨this.2.2.1, this.1⟩)
      rw [hdn]
      cases p : nextM men s (it n (pickF men s) M) with
      | none =>
        rw [stop n hle p]
        exact ⟨b, a, c, hD, e1, e2⟩
      | some k =>
        have hk := next_lt p
        have hP := (next_in p).1
        rw [rows n 88 (by decide)] at hP
        have hbk := next_bit h8 hD.1.1 e1 p
        obtain ⟨a2, c2, hD2, ea⟩ := take_sim (n := n) htd hw hc hM hs hk hP hbk hy hD
        have step : it (n + 1) (pickF men s) M = pickF men s n (it n (pickF men s) M) := rfl
        have eB : it (n + 1) (pickF men s) M 90 s = nI (b ||| 2 ^ k) := by
          rw [step, pick_some p]
          rw [up_off (by omega), up_at, e1, (or8 hD.1.1 (show k < 8 by omega)).1]
        have eA : it (n + 1) (pickF men s) M 91 s = nI a2 := by
          rw [step, pick_some p]
          rw [up_at, e2, rows n 85 (by decide), rows n 76 (by decide)]
          exact ea.symm
        exact ih (n + 1) _ _ _ _ (by omega) (by omega) (CW_keep hc (fun i j h1 h2 => takeM_t (by omega))) hD2 (by rw [card_or b hD.1.1 k (by omega) hbk]; omega) eB eA
    · rw [if_neg (fun z => q (hlt.mp z))]
      have : n = nd := by omega
      subst this
      exact ⟨b, a, c, hD, e1, e2⟩
def topO (c : Nat) : Option Nat := it 8 (fun k o => if c.testBit k = true then some k else o) none
theorem top_all : ∀ c, c < 256 → c ≠ 0 → (topO c).map nI = some (nI 31 - nlzM (nI c)) := by decide +kernel
def topI (n c : Nat) (l : Int32) : Int32 := it n (fun k l => if c.testBit k = true then nI k else l) l
theorem top_8 {c n : Nat} {l : Int32} (hb : ∀ k, k < 8 → c.testBit k = true → k < n) : ∀ r, n + r ≤ 8 → topI (n + r) c l = topI n c l := by
  intro r
  induction r with
  | zero => intro _; rfl
  | succ r ih =>
    intro h
    show (if c.testBit (n + r) = true then nI (n + r) else topI (n + r) c l) = topI n c l
    rw [if_neg (fun z => by have := hb (n + r) (by omega) z; omega), ih (by omega)]
theorem top_e {c n : Nat} {l : Int32} (hc : c < 256) (hn : n ≤ 8) (hb : ∀ k, k < 8 → c.testBit k = true → k < n) : topI n c l = if c = 0 then l else nI 31 - nlzM (nI c) := by
  have e := top_8 (l := l) hb (8 - n) (by omega)
  rw [show n + (8 - n) = 8 by omega] at e
  rw [← e]
  have key := it_sim (fun k (l : Int32) => if c.testBit k = true then nI k else l) (fun k (o : Option Nat) => if c.testBit k = true then some k else o) (fun _ a o => a = match o with | none => l | some j => nI j) 8 (fun k hk a o h => by
    by_cases q : c.testBit k = true
    · rw [if_pos q, if_pos q]
    · rw [if_neg q, if_neg q]
      exact h) l none rfl 8 (Nat.le_refl _)
  have key : topI 8 c l = match topO c with | none => l | some j => nI j := key
  rw [key]
  by_cases q : c = 0
  · subst q
    have : topO 0 = none := by decide +kernel
    rw [this, if_pos rfl]
  · rw [if_neg q]
    have := top_all c hc q
    cases p : topO c with
    | none => rw [p] at this; cases this
    | some j =>
      rw [p] at this
      exact Option.some.inj this
/-- behind the sails of the first j -/
def SlI (men c s j : Nat) (day y : Int32) (M Y : AMem) : Prop := (Y 92 s = nI c) ∧ (∀ k, k < men → Y 86 k = (if k < j ∧ c.testBit k = true then nI 0 else M 86 k) ∧ Y 88 k = (if k < j ∧ c.testBit k = true then nI (8 + s) else M 88 k) ∧ Y 93 k = (if k < j ∧ c.testBit k = true then day else M 93 k)) ∧ (∀ h, h < 8 → Y 89 h = M 89 h + incI j c y M h) ∧ Y 73 24 = topI j c (M 73 24)
theorem sail_step {c s j : Nat} {day y : Int32} {Y : AMem} (h8 : men ≤ 8) (hc : c < 256) (hj : j < men) (hin : ∀ k, k < 8 → c.testBit k = true → k < men ∧ (nI 0 ≤ M 88 k ∧ M 88 k < nI 8)) (h : SlI men c s j day y M Y) : SlI men c s (j + 1) day y M (sailF s y day j Y) := by
  obtain ⟨s1, s2, s3, s4⟩ := h
  unfold sailF
  rw [s1, bitI_nI c hc j (by omega)]
  by_cases q : c.testBit j = true
  · rw [if_pos q]
    obtain ⟨p, hp, pe⟩ := P_nI (hin j (by omega) q).2 (by decide)
    have y88 : Y 88 j = nI p := by
      rw [(s2 j hj).2.1, if_neg (fun z => by omega)]
      exact pe
    rw [y88, nI_cl8 (by omega)]
    refine ⟨?_, fun k hk => ?_, fun h hh => ?_, ?_⟩
    · simp [up_ap, s1]
    · obtain ⟨f1, f2, f3⟩ := s2 k hk
      by_cases z : k = j
      · subst z
        simp [up_ap, q]
      · have e : (k < j + 1) = (k < j) := propext ⟨fun y => by omega, fun y => by omega⟩
        simp [up_ap, z, e]
        exact ⟨by simpa using f1, by simpa using f2, by simpa using f3⟩
    · show _ = M 89 h + (if c.testBit j = true ∧ M 88 j = nI h then incI j c y M h + y else incI j c y M h)
      by_cases z : h = p
      · subst z
        rw [if_pos ⟨q, pe⟩]
        simp [up_ap]
        rw [s3 h hh, Int32.add_assoc]
      · rw [if_neg (fun x => by
          have := pe.symm.trans x.2
          rw [nI_eq8 (by omega) (by omega)] at this
          exact z this.symm)]
        simp [up_ap, z]
        exact s3 h hh
    · show _ = (if c.testBit j = true then nI j else topI j c (M 73 24))
      rw [if_pos q]
      simp [up_ap]
  · rw [if_neg q]
    refine ⟨s1, fun k hk => ?_, fun h hh => ?_, ?_⟩
    · obtain ⟨f1, f2, f3⟩ := s2 k hk
      have e : (k < j + 1 ∧ c.testBit k = true) = (k < j ∧ c.testBit k = true) := propext ⟨fun y => ⟨by
        have : k ≠ j := fun z => q (z ▸ y.2)
        omega, y.2⟩, fun y => ⟨by omega, y.2⟩⟩
      simp only [e]
      exact ⟨f1, f2, f3⟩
    · show _ = M 89 h + (if c.testBit j = true ∧ M 88 j = nI h then incI j c y M h + y else incI j c y M h)
      rw [if_neg (fun z => q z.1)]
      exact s3 h hh
    · show _ = (if c.testBit j = true then nI j else topI j c (M 73 24))
      rw [if_neg q]
      exact s4
theorem sim_depart (hd : dd d t) (hw : Wok men inns fleet w) (hc : CW t men inns fleet w m) (hM : MW men inns fleet w M) (hS : Sim d men inns m M) {s : Nat} {day : Int32} (hs : s < fleet) (z0 : M 90 s = nI 0) (z1 : M 91 s = nI 0) (z2 : M 92 s = nI 0) : Sim d men inns (departM d t men s day m) (mComesM men s day M) := by
  obtain ⟨S1, S2, S3, S4, S5⟩ := hS
  have htd : t + 10 < d := by rcases hd with ⟨rfl, rfl⟩ | ⟨rfl, rfl⟩ <;> omega
  have h8 := hw.1.1
  have hf := hw.1.2.2
  obtain ⟨nd, hnd, e8⟩ := (hw.2.2.2.1 s hs).2.1
  have hy : nI 10 * (if w 0 3 < w 9 s then w 0 3 else w 9 s) = byM s M := by
    unfold byM
    rw [show M 84 s = w 9 s from hM.2.2.2.2 9 s (by omega) (by omega) hs, hM.2.1.1, min_sym]
  have hD0 : Dst d men s day (byM s M) M 0 0 0 m := by
    obtain ⟨t1, t2, t3⟩ := S3 s (by omega)
    refine ⟨⟨by decide, by decide, by decide⟩, fun k _ => by simp, fun k _ h => by simp at h, fun k _ h => by simp at h, ⟨t1.trans z0, t2.trans z1, t3.trans z2⟩, fun k hk => ?_, fun h hh => ?_, fun i hi _ => S3 i hi, S4⟩
    · have := S1 k hk
      simp
      exact ⟨this.1, this.2.1, this.2.2.1, this.2.2.2⟩
    · have i0 : ∀ n, incI n 0 (byM s M) M h = nI 0 := by
        intro n
        induction n with
        | zero => rfl
        | succ n ih =>
          show (if (0 : Nat).testBit n = true ∧ M 88 n = nI h then incI n 0 (byM s M) M h + byM s M else incI n 0 (byM s M) M h) = nI 0
          rw [if_neg (fun z => by simp at z), ih]
      rw [i0, show (nI 0 : Int32) = 0 from rfl, Int32.add_zero]
      exact S2 h hh
  obtain ⟨b, a, c, hD, eb, ea⟩ := dep_sim hd hw hM hs hy e8 (by omega) 8 0 m 0 0 0 rfl (Nat.zero_le _) hc hD0 (by decide +kernel) z0 z1
  obtain ⟨⟨b1, b2, b3⟩, d2, d3, d4, ⟨d5, d6, d7⟩, d8, d9, d10, d11⟩ := hD
  have hcl : lessN b a = c := nat_eq8 (less8 b2 b1).2 b3 (fun k hk => by rw [less_bit hk, d2 k hk])
  have hin : ∀ k, k < 8 → c.testBit k = true → k < men ∧ (nI 0 ≤ M 88 k ∧ M 88 k < nI 8) := fun k hk z => d4 k hk (by
    rw [d2 k hk, Bool.and_eq_true] at z
    exact z.1)
  have hmid : cMid men s M = up (it nd (pickF men s) M) 92 s (nI c) := by
    unfold cMid
    rw [show M 83 s = w 8 s from hM.2.2.2.2 8 s (by omega) (by omega) hs, e8, nI_cl8 (by omega), eb, ea, (less8 b2 b1).1, hcl]
  have rows : ∀ n a, a ≠ 90 ∧ a ≠ 91 → it n (pickF men s) M a = M a := fun n a ha => it_row (fun k m => pick_row ha) n M
  have hX0 : SlI men c s 0 day (byM s M) M (up (it nd (pickF men s) M) 92 s (nI c)) := by
    refine ⟨up_at, fun k hk => ?_, fun h hh => ?_, ?_⟩
    · rw [if_neg (fun z => by omega), if_neg (fun z => by omega), if_neg (fun z => by omega), up_row (by omega), up_row (by omega), up_row (by omega), rows nd 86 (by decide), rows nd 88 (by decide), rows nd 93 (by decide)]
      exact ⟨rfl, rfl, rfl⟩
    · rw [up_row (by omega), rows nd 89 (by decide)]
      show M 89 h = M 89 h + nI 0
      rw [show (nI 0 : Int32) = 0 from rfl, Int32.add_zero]
    · rw [up_row (by omega), rows nd 73 (by decide)]
      rfl
  have hX := it_I (sailF s (byM s M) day) (fun j Y => SlI men c s j day (byM s M) M Y) men (fun j hj Y h => sail_step h8 b3 hj hin h) _ hX0 men (Nat.le_refl _)
  obtain ⟨x1, x2, x3, x4⟩ := hX
  have hMc : mComesM men s day M = it men (sailF s (byM s M) day) (up (it nd (pickF men s) M) 92 s (nI c)) := by
    unfold mComesM
    rw [hmid]
  rw [hMc]
  have srow : ∀ a, a ≠ 73 ∧ a ≠ 86 ∧ a ≠ 88 ∧ a ≠ 89 ∧ a ≠ 93 → it men (sailF s (byM s M) day) (up (it nd (pickF men s) M) 92 s (nI c)) a = up (it nd (pickF men s) M) 92 s (nI c) a := fun a ha => it_row (fun k m => sail_row ha) _ _
  have r90 : it men (sailF s (byM s M) day) (up (it nd (pickF men s) M) 92 s (nI c)) 90 = it nd (pickF men s) M 90 := by rw [srow 90 (by decide), up_row (by decide)]
  have r91 : it men (sailF s (byM s M) day) (up (it nd (pickF men s) M) 92 s (nI c)) 91 = it nd (pickF men s) M 91 := by rw [srow 91 (by decide), up_row (by decide)]
  have r92 : ∀ i, i ≠ s → it men (sailF s (byM s M) day) (up (it nd (pickF men s) M) 92 s (nI c)) 92 i = M 92 i := fun i hi => by rw [srow 92 (by decide), up_off (Or.inr hi), rows nd 92 (by decide)]
  have r87 : it men (sailF s (byM s M) day) (up (it nd (pickF men s) M) 92 s (nI c)) 87 = M 87 := by rw [srow 87 (by decide), up_row (by decide), rows nd 87 (by decide)]
  have pk : ∀ i, i ≠ s → it nd (pickF men s) M 90 i = M 90 i ∧ it nd (pickF men s) M 91 i = M 91 i := fun i hi => ⟨it_at (fun k m => pick_at hi) M, it_at (fun k m => pick_at hi) M⟩
  generalize it men (sailF s (byM s M) day) (up (it nd (pickF men s) M) 92 s (nI c)) = Y at *
  have ex : ∀ k, k < men → (k < men ∧ c.testBit k = true) = (c.testBit k = true) := fun k hk => propext ⟨fun z => z.2, fun z => ⟨hk, z⟩⟩
  unfold departM depE
  generalize depL d t men s day 8 0 m = N at *
  have base : (∀ k, k < men → N (d + 1) k = Y 86 k ∧ N (d + 2) k = Y 87 k ∧ N (d + 3) k = Y 88 k ∧ N (d + 4) k = Y 93 k) ∧ (∀ h, h < 8 → N (d + 5) h = Y 89 h) ∧ (∀ i, i < 6 → N (d + 7) i = Y 90 i ∧ N (d + 8) i = Y 91 i ∧ N (d + 9) i = Y 92 i) ∧ (∀ k, k < men → PlN inns (Y 88 k)) := by
    refine ⟨fun k hk => ?_, fun h hh => (d9 h hh).trans (x3 h hh).symm, fun i hi => ?_, fun k hk => ?_⟩
    · obtain ⟨f1, f2, f3, f4⟩ := d8 k hk
      obtain ⟨g1, g2, g3⟩ := x2 k hk
      simp only [ex k hk] at g1 g2 g3
      rw [r87]
      exact ⟨f1.trans g1.symm, f2, f3.trans g2.symm, f4.trans g3.symm⟩
    · by_cases q : i = s
      · subst q
        rw [r90, r91]
        exact ⟨d5.trans eb.symm, d6.trans ea.symm, d7.trans x1.symm⟩
      · rw [r90, r91, (pk i q).1, (pk i q).2, r92 i q]
        exact d10 i hi q
    · obtain ⟨g1, g2, g3⟩ := x2 k hk
      rw [g2]
      by_cases q : k < men ∧ c.testBit k = true
      · rw [if_pos q]
        exact Or.inr (Or.inr ⟨s, by omega, rfl⟩)
      · rw [if_neg q]
        exact S5 k hk
  rw [top_e b3 h8 (fun k hk z => (hin k hk z).1)] at x4
  have he : (nI c = nI 0) = (c = 0) := nI_eq8 (by omega) (by omega)
  by_cases q : c = 0
  · rw [d7, if_pos (he.mpr q)]
    rw [if_pos q] at x4
    exact ⟨base.1, base.2.1, base.2.2.1, d11.trans x4.symm, base.2.2.2⟩
  · rw [d7, if_neg (fun z => q (he.mp z))]
    rw [if_neg q] at x4
    refine ⟨fun k hk => ?_, fun h hh => ?_, fun i hi => ?_, ?_, base.2.2.2⟩
    · rw [up_off (by omega), up_off (by omega), up_off (by omega), up_off (by omega)]
      exact base.1 k hk
    · rw [up_off (by omega)]
      exact base.2.1 h hh
    · rw [up_off (by omega), up_off (by omega), up_off (by omega)]
      exact base.2.2.1 i hi
    · rw [up_at, x4]
end SIME
