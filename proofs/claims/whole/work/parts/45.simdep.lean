section SIMD
variable {men inns fleet d t : Nat} {w m M : AMem}
theorem nat_eq8 {x y : Nat} (hx : x < 256) (hy : y < 256) (h : ∀ k, k < 8 → x.testBit k = y.testBit k) : x = y := by
  apply Nat.eq_of_testBit_eq
  intro i
  by_cases q : i < 8
  · exact h i q
  · have h2 : 2 ^ 8 ≤ 2 ^ i := Nat.pow_le_pow_right (by decide) (by omega)
    have h3 : (2 : Nat) ^ 8 = 256 := by decide
    rw [Nat.testBit_lt_two_pow (by omega), Nat.testBit_lt_two_pow (by omega)]
theorem bit_0 : ∀ b, b < 256 → ∀ k, k < 8 → (((nI b >>> (nI k &&& 31)) &&& nI 1 = nI 0) ↔ b.testBit k = false) := by decide +kernel
theorem bit_1 {b k : Nat} (hb : b < 256) (hk : k < 8) : ((nI b >>> (nI k &&& 31)) &&& nI 1 = nI 1) ↔ b.testBit k = true := by
  rw [bitI_P, bitI_nI b hb k hk]
theorem next_bit {s k b : Nat} (h8 : men ≤ 8) (hb : b < 256) (e : M 90 s = nI b) (h : nextM men s M = some k) : b.testBit k = false := by
  have key := it_I (fun k best => if nextC s M k best = true then some k else best) (fun _ (o : Option Nat) => ∀ j, o = some j → b.testBit j = false) men (fun k hk o ho j hj => by
    split at hj
    · rename_i hc
      have z : k = j := Option.some.inj hj
      rw [← z]
      unfold nextC at hc
      rw [Bool.and_eq_true] at hc
      have := (of_decide_eq_true hc.1).2.2
      rw [e, bit_1 hb (by omega)] at this
      simpa using this
    · exact ho j hj) none (fun j hj => by cases hj) men (Nat.le_refl _)
  exact key k h
theorem deep_next {b s : Nat} (h8 : men ≤ 8) (hb : b < 256) (e : M 90 s = nI b) (h : ∀ k, k < men → b.testBit k = false → m (d + 3) k = M 88 k ∧ m (d + 1) k = M 86 k) : (deepM d men (nI b) m).1 = nextM men s M := by
  have key := it_sim (fun k (s : Option Nat × Int32) => if (nI 0 ≤ m (d + 3) k ∧ m (d + 3) k < nI 8) ∧ (nI b >>> (nI k &&& 31)) &&& nI 1 = nI 0 ∧ s.2 < m (d + 1) k then (some k, m (d + 1) k) else s) (fun k best => if nextC s M k best = true then some k else best) (fun _ a o => a.1 = o ∧ (o = none → a.2 = nI 0) ∧ ∀ j, o = some j → a.2 = M 86 j ∧ nI 0 < M 86 j) men (fun k hk a o hR => by
    obtain ⟨r1, r2, r3⟩ := hR
    have hk8 : k < 8 := by omega
    unfold nextC
    rw [e]
    by_cases q : b.testBit k = true
    · rw [if_neg (fun z => by
        have := (bit_0 b hb k hk8).mp z.2.1
        rw [q] at this
        cases this), if_neg (fun z => by
        rw [Bool.and_eq_true] at z
        exact (of_decide_eq_true z.1).2.2 ((bit_1 hb hk8).mpr q))]
      exact ⟨r1, r2, r3⟩
    · have qf : b.testBit k = false := by simpa using q
      have h0 := (bit_0 b hb k hk8).mpr qf
      have h1 : ¬ (nI b >>> (nI k &&& 31)) &&& nI 1 = nI 1 := fun z => q ((bit_1 hb hk8).mp z)
      obtain ⟨p3, p1⟩ := h k hk qf
      rw [p3, p1]
      by_cases hp : (nI 0 ≤ M 88 k ∧ M 88 k < nI 8)
      · cases o with
        | none =>
          rw [r2 rfl]
          by_cases g : nI 0 < M 86 k
          · rw [if_pos ⟨hp, h0, g⟩, if_pos (by rw [Bool.and_eq_true]; exact ⟨decide_eq_true ⟨hp, g, h1⟩, rfl⟩)]
            exact ⟨rfl, fun z => (by cases z), fun j hj => by cases hj; exact ⟨rfl, g⟩⟩
          · rw [if_neg (fun z => g z.2.2), if_neg (fun z => by rw [Bool.and_eq_true] at z; exact g (of_decide_eq_true z.1).2.1)]
            exact ⟨r1, r2, r3⟩
        | some j =>
          obtain ⟨v1, v2⟩ := r3 j rfl
          rw [v1]
          by_cases g : M 86 j < M 86 k
          · have g0 : nI 0 < M 86 k := by rw [fa2_lt] at v2 g ⊢; omega
            rw [if_pos ⟨hp, h0, g⟩, if_pos (by rw [Bool.and_eq_true]; exact ⟨decide_eq_true ⟨hp, g0, h1⟩, decide_eq_true g⟩)]
            exact ⟨rfl, fun z => (by cases z), fun j hj => by cases hj; exact ⟨rfl, g0⟩⟩
          · rw [if_neg (fun z => g z.2.2), if_neg (fun z => by rw [Bool.and_eq_true] at z; exact g (of_decide_eq_true z.2))]
            exact ⟨r1, r2, r3⟩
      · rw [if_neg (fun z => hp z.1), if_neg (fun z => by rw [Bool.and_eq_true] at z; exact hp (of_decide_eq_true z.1).1)]
        exact ⟨r1, r2, r3⟩) (none, nI 0) none ⟨rfl, fun _ => rfl, fun j hj => by cases hj⟩ men (Nat.le_refl _)
  exact key.1
def cardN (b : Nat) : Nat := it 8 (fun k c => if b.testBit k = true then c + 1 else c) 0
theorem card_or : ∀ b, b < 256 → ∀ k, k < 8 → b.testBit k = false → cardN (b ||| 2 ^ k) = cardN b + 1 := by decide +kernel
theorem card_8 : ∀ b, b < 256 → cardN b = 8 → b = 255 := by decide +kernel
theorem tb255 : ∀ k, k < 8 → (255 : Nat).testBit k = true := by decide
def incI (men c : Nat) (y : Int32) (M : AMem) (h : Nat) : Int32 := it men (fun k (x : Int32) => if c.testBit k = true ∧ M 88 k = nI h then x + y else x) (nI 0)
theorem inc_or {c k h : Nat} {y : Int32} (hc : c.testBit k = false) : ∀ n, incI n (c ||| 2 ^ k) y M h = incI n c y M h + (if k < n ∧ M 88 k = nI h then y else nI 0) := by
  intro n
  induction n with
  | zero =>
    rw [if_neg (fun z => by omega)]
    show nI 0 = nI 0 + nI 0
    decide
  | succ n ih =>
    unfold incI at ih ⊢
    rw [it_s, it_s, ih]
    by_cases q : n = k
    · subst q
      have t1 : (c ||| 2 ^ n).testBit n = true := by rw [or_bit]; simp
      rw [if_neg (fun z => by omega : ¬ (n < n ∧ M 88 n = nI h))]
      by_cases p : M 88 n = nI h
      · rw [if_pos ⟨t1, p⟩, if_neg (fun z => by rw [hc] at z; cases z.1), if_pos ⟨by omega, p⟩]
        rw [show (nI 0 : Int32) = 0 from rfl, Int32.add_zero]
      · rw [if_neg (fun z => p z.2), if_neg (fun z => p z.2), if_neg (fun z => p z.2)]
    · have t1 : (c ||| 2 ^ k).testBit n = c.testBit n := by rw [or_bit]; simp [show ¬ k = n from fun z => q z.symm]
      rw [t1]
      have e2 : (k < n + 1 ∧ M 88 k = nI h) = (k < n ∧ M 88 k = nI h) := propext ⟨fun z => ⟨by omega, z.2⟩, fun z => ⟨by omega, z.2⟩⟩
      simp only [e2]
      by_cases p : c.testBit n = true ∧ M 88 n = nI h
      · rw [if_pos p, if_pos p, Int32.add_assoc, Int32.add_assoc]
        rw [Int32.add_comm y]
      · rw [if_neg p, if_neg p]
/-- the class, when some are taken -/
def Dst (d men s : Nat) (day y : Int32) (M : AMem) (b a c : Nat) (m : AMem) : Prop :=
  (b < 256 ∧ a < 256 ∧ c < 256) ∧ (∀ k, k < 8 → c.testBit k = (b.testBit k && !a.testBit k)) ∧ (∀ k, k < 8 → a.testBit k = true → b.testBit k = true) ∧ (∀ k, k < 8 → b.testBit k = true → k < men ∧ (nI 0 ≤ M 88 k ∧ M 88 k < nI 8)) ∧
  (m (d + 7) s = nI b ∧ m (d + 8) s = nI a ∧ m (d + 9) s = nI c) ∧
  (∀ k, k < men → m (d + 1) k = (if c.testBit k = true then nI 0 else M 86 k) ∧ m (d + 2) k = M 87 k ∧ m (d + 3) k = (if c.testBit k = true then nI (8 + s) else M 88 k) ∧ m (d + 4) k = (if c.testBit k = true then day else M 93 k)) ∧
  (∀ h, h < 8 → m (d + 5) h = M 89 h + incI men c y M h) ∧
  (∀ i, i < 6 → i ≠ s → m (d + 7) i = M 90 i ∧ m (d + 8) i = M 91 i ∧ m (d + 9) i = M 92 i) ∧ m d 14 = M 73 24
theorem kind_23 {a : Nat} (h : a < 4) : (nI a = nI 2 ∨ nI a = nI 3) = (nI 1 < nI a) := by
  rw [nI_eq8 (by omega) (by omega), nI_eq8 (by omega) (by omega), nI_lt8 (by omega) (by omega)]
  exact propext ⟨fun z => by omega, fun z => by omega⟩
theorem take_sim (htd : t + 10 < d) (hw : Wok men inns fleet w) (hc : CW t men inns fleet w m) (hM : MW men inns fleet w M) {s n k b a c : Nat} {day y : Int32} (hs : s < fleet) (hk : k < men) (hP : (nI 0 ≤ M 88 k ∧ M 88 k < nI 8)) (hbk : b.testBit k = false) (hy : nI 10 * (if w 0 3 < w 9 s then w 0 3 else w 9 s) = y) (hD : Dst d men s day y M b a c m) : ∃ a2 c2, Dst d men s day y M (b ||| 2 ^ k) a2 c2 (takeM d t s day n k m) ∧ nI a2 = (nI a ||| (if nI n < M 85 s ∧ nI 1 < M 76 k then nI 1 <<< (nI k &&& 31) else nI 0)) := by
  obtain ⟨⟨b1, b2, b3⟩, d2, d3, d4, ⟨d5, d6, d7⟩, d8, d9, d10, d11⟩ := hD
  have h8 := hw.1.1
  have hk8 : k < 8 := by omega
  have hf := hw.1.2.2
  obtain ⟨o1, o2⟩ := or8 (k := k) b1 hk8
  obtain ⟨o3, o4⟩ := or8 (k := k) b2 hk8
  obtain ⟨o5, o6⟩ := or8 (k := k) b3 hk8
  have hak : a.testBit k = false := by
    cases q : a.testBit k with
    | false => rfl
    | true => rw [d3 k hk8 q] at hbk; cases hbk
  have hck : c.testBit k = false := by rw [d2 k hk8, hbk]; rfl
  have w1 : m (t + 1) k = w 1 k := hc.2.2.1 1 k (by omega) (by omega) hk
  have w1M : M 76 k = w 1 k := hM.2.2.1 1 k (by omega) (by omega) hk
  have w10 : m (t + 10) s = w 10 s := hc.2.2.2.2 10 s (by omega) (by omega) hs
  have w10M : M 85 s = w 10 s := hM.2.2.2.2 10 s (by omega) (by omega) hs
  have w9 : m (t + 9) s = w 9 s := hc.2.2.2.2 9 s (by omega) (by omega) hs
  obtain ⟨ka, hka, ke⟩ := (hw.2.1 k hk).1
  obtain ⟨h, hh, he⟩ := P_nI hP (by decide)
  have hor : ∀ i, (b ||| 2 ^ k).testBit i = (b.testBit i || decide (k = i)) := fun i => or_bit
  have hb4 : ∀ i, i < 8 → (b ||| 2 ^ k).testBit i = true → i < men ∧ (nI 0 ≤ M 88 i ∧ M 88 i < nI 8) := fun i hi z => by
    rw [hor, Bool.or_eq_true] at z
    rcases z with z | z
    · exact d4 i hi z
    · have := of_decide_eq_true z
      subst this
      exact ⟨hk, hP⟩
  unfold takeM
  rw [d5, o1, w10, w1, w10M, w1M, ke]
  dsimp only
  by_cases q : nI n < w 10 s ∧ nI 1 < nI ka
  · rw [if_pos (show nI n < w 10 s ∧ (nI ka = nI 2 ∨ nI ka = nI 3) from ⟨q.1, (kind_23 hka).mpr q.2⟩), if_pos q]
    refine ⟨a ||| 2 ^ k, c, ⟨⟨o2, o4, b3⟩, fun i hi => ?_, fun i hi z => ?_, hb4, ⟨?_, ?_, ?_⟩, fun i hi => ?_, fun j hj => ?_, fun i hi hne => ?_, ?_⟩, o3.symm⟩
    · rw [hor, or_bit, d2 i hi]
      by_cases z : k = i
      · subst z; simp [hbk, hak]
      · simp [z]
    · rw [or_bit, Bool.or_eq_true] at z
      rw [hor, Bool.or_eq_true]
      rcases z with z | z
      · exact Or.inl (d3 i hi z)
      · exact Or.inr z
    · simp [up_ap]
    · simp [up_ap, d6, o3]
    · simp [up_ap, d7]
    · simp [up_ap]
      exact d8 i hi
    · simp [up_ap]
      exact d9 j hj
    · simp [up_ap, hne]
      exact d10 i hi hne
    · simp [up_ap, d11]
  · rw [if_neg (show ¬ (nI n < w 10 s ∧ (nI ka = nI 2 ∨ nI ka = nI 3)) from fun z => q ⟨z.1, (kind_23 hka).mp z.2⟩), if_neg q]
    have p3 : up m (d + 7) s (nI (b ||| 2 ^ k)) (d + 3) k = nI h := by
      rw [up_off (by omega), (d8 k hk).2.2.1, hck]
      exact he
    have y2 : nI 10 * (if up m (d + 7) s (nI (b ||| 2 ^ k)) t 3 < up m (d + 7) s (nI (b ||| 2 ^ k)) (t + 9) s then up m (d + 7) s (nI (b ||| 2 ^ k)) t 3 else up m (d + 7) s (nI (b ||| 2 ^ k)) (t + 9) s) = y := by
      rw [up_off (by omega), up_off (by omega), hc.2.1.1, w9]
      exact hy
    unfold boardM
    rw [p3, if_pos (nI_P hh (by decide)), nI_cl8 (by omega)]
    dsimp only
    rw [y2, show nI 8 + nI s = nI (8 + s) from nI_add 8 s]
    refine ⟨a, c ||| 2 ^ k, ⟨⟨o2, b2, o6⟩, fun i hi => ?_, fun i hi z => ?_, hb4, ⟨?_, ?_, ?_⟩, fun i hi => ?_, fun j hj => ?_, fun i hi hne => ?_, ?_⟩, (or0 b2).symm⟩
    · rw [hor, or_bit, d2 i hi]
      by_cases z : k = i
      · subst z; simp [hbk, hak]
      · simp [z]
    · rw [hor, Bool.or_eq_true]
      exact Or.inl (d3 i hi z)
    · simp [up_ap]
    · simp [up_ap, d6]
    · simp [up_ap, d7, o5]
    · obtain ⟨f1, f2, f3, f4⟩ := d8 i hi
      rw [or_bit]
      by_cases z : k = i
      · subst z
        simp [up_ap, f2]
      · have z2 : ¬ i = k := fun y => z y.symm
        simp [up_ap, z, z2]
        exact ⟨f1, f2, f3, f4⟩
    · rw [inc_or hck]
      by_cases z : j = h
      · subst z
        rw [if_pos ⟨hk, he⟩]
        simp [up_ap]
        rw [d9 j hj, Int32.add_assoc]
      · have z2 : ¬ (k < men ∧ M 88 k = nI j) := fun y => by
          have y2 := he.symm.trans y.2
          rw [nI_eq8 (by omega) (by omega)] at y2
          exact z y2.symm
        rw [if_neg z2, show (nI 0 : Int32) = 0 from rfl, Int32.add_zero]
        simp [up_ap, z]
        exact d9 j hj
    · simp [up_ap, hne]
      exact d10 i hi hne
    · simp [up_ap, d11]
end SIMD
