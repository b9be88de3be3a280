section SIMB
variable {men inns fleet d t : Nat} {w m M : AMem}
theorem nI_sub {a b : Nat} (h : b ≤ a) : nI a - nI b = nI (a - b) := by
  have e := nI_add (a - b) b
  rw [Nat.sub_add_cancel h] at e
  rw [← e]
  exact Int32.add_sub_cancel _ _
def loN (w : AMem) (k : Nat) : Nat := (w 4 k).toNatClampNeg
def bdN (inns : Nat) (w : AMem) (h : Nat) : Nat := if h < inns then (w 6 h).toNatClampNeg else 0
def cntN (w : AMem) (j h : Nat) : Nat := it j (fun i c => if loN w i = h then c + 1 else c) 0
def plV (inns : Nat) (w : AMem) (k : Nat) : Int32 := if cntN w k (loN w k) < bdN inns w (loN w k) then nI (loN w k) else -1
theorem Wlo (hw : Wok men inns fleet w) {k : Nat} (hk : k < men) : w 4 k = nI (loN w k) ∧ loN w k < 8 := by
  obtain ⟨a, ha, e⟩ := (hw.2.1 k hk).2.2.2
  have : loN w k = a := by unfold loN; rw [e, nI_cl8 (by omega)]
  rw [this]
  exact ⟨e, ha⟩
theorem Wbd (hw : Wok men inns fleet w) {h : Nat} (hh : h < inns) : w 6 h = nI (bdN inns w h) ∧ bdN inns w h < 10 := by
  obtain ⟨a, ha, e⟩ := (hw.2.2.1 h hh).2
  have : bdN inns w h = a := by unfold bdN; rw [if_pos hh, e, nI_cl8 (by omega)]
  rw [this]
  exact ⟨e, ha⟩
theorem bd_0 {h : Nat} (hh : ¬ h < inns) : bdN inns w h = 0 := by unfold bdN; rw [if_neg hh]
theorem bd_lt (hw : Wok men inns fleet w) (h : Nat) : bdN inns w h < 10 := by
  by_cases hh : h < inns
  · exact (Wbd hw hh).2
  · rw [bd_0 hh]; decide
theorem cnt_le {h : Nat} : ∀ j, cntN w j h ≤ j := by
  intro j
  induction j with
  | zero => exact Nat.le_refl _
  | succ j ih =>
    unfold cntN at ih ⊢
    rw [it_s]
    split <;> omega
theorem cnt_s {j h : Nat} : cntN w (j + 1) h = if loN w j = h then cntN w j h + 1 else cntN w j h := rfl
theorem beg1_it : ∀ (n : Nat) (m : AMem), ∀ s, s < n → it n (beg1 d) m (d + 7) s = nI 0 ∧ it n (beg1 d) m (d + 8) s = nI 0 ∧ it n (beg1 d) m (d + 9) s = nI 0 := by
  intro n
  induction n with
  | zero => intro m s h; omega
  | succ n ih =>
    intro m s h
    rw [it_s]
    unfold beg1
    by_cases q : s = n
    · subst q
      simp [up_ap]
    · simp [up_ap, q]
      exact ih m s (by omega)
theorem beg1_off {n a j : Nat} {m : AMem} (h : a < d + 7 ∨ d + 9 < a) : it n (beg1 d) m a j = m a j := it_at (fun k m => by unfold beg1; rw [up_off (by omega), up_off (by omega), up_off (by omega)]) m
theorem beg2_it (htd : t + 10 < d) : ∀ (n : Nat) (m : AMem), ∀ h, h < n → it n (beg2 d t) m (d + 5) h = nI 0 ∧ it n (beg2 d t) m (d + 6) h = if nI h < m t 1 then m (t + 6) h else nI 0 := by
  intro n
  induction n with
  | zero => intro m s h; omega
  | succ n ih =>
    intro m s h
    have k1 : it n (beg2 d t) m t 1 = m t 1 := it_at (fun k m => beg2_t (by omega)) m
    have k2 : ∀ j, it n (beg2 d t) m (t + 6) j = m (t + 6) j := fun j => it_at (fun k m => beg2_t (by omega)) m
    rw [it_s]
    unfold beg2
    by_cases q : s = n
    · subst q
      rw [up_off (by omega), up_at, up_at]
      refine ⟨rfl, ?_⟩
      have e1 : it s (beg2 d t) m t 1 = m t 1 := k1
      have e2 : it s (beg2 d t) m (t + 6) s = m (t + 6) s := k2 s
      unfold beg2 at e1 e2
      rw [e1, e2]
    · rw [up_off (by omega), up_off (by omega), up_off (by omega), up_off (by omega)]
      exact ih m s (by omega)
theorem beg2_off {n a j : Nat} {m : AMem} (h : a < d + 5 ∨ d + 6 < a) : it n (beg2 d t) m a j = m a j := it_at (fun k m => by unfold beg2; rw [up_off (by omega), up_off (by omega)]) m
/-- behind the first two loops of the begin -/
theorem beg_pre (htd : t + 10 < d) (hw : Wok men inns fleet w) (hc : CW t men inns fleet w m) : CW t men inns fleet w (it 8 (beg2 d t) (it 6 (beg1 d) (up m d 14 (-1)))) ∧ (∀ h, h < 8 → it 8 (beg2 d t) (it 6 (beg1 d) (up m d 14 (-1))) (d + 5) h = nI 0 ∧ it 8 (beg2 d t) (it 6 (beg1 d) (up m d 14 (-1))) (d + 6) h = nI (bdN inns w h)) ∧ (∀ s, s < 6 → it 8 (beg2 d t) (it 6 (beg1 d) (up m d 14 (-1))) (d + 7) s = nI 0 ∧ it 8 (beg2 d t) (it 6 (beg1 d) (up m d 14 (-1))) (d + 8) s = nI 0 ∧ it 8 (beg2 d t) (it 6 (beg1 d) (up m d 14 (-1))) (d + 9) s = nI 0) ∧ it 8 (beg2 d t) (it 6 (beg1 d) (up m d 14 (-1))) d 14 = -1 := by
  have c1 : CW t men inns fleet w (it 6 (beg1 d) (up m d 14 (-1))) := CW_keep hc (fun a j h1 h2 => by rw [beg1_off (by omega), up_off (by omega)])
  refine ⟨CW_keep c1 (fun a j h1 h2 => beg2_off (by omega)), fun h hh => ?_, fun s hs => ?_, ?_⟩
  · obtain ⟨e1, e2⟩ := beg2_it htd 8 (it 6 (beg1 d) (up m d 14 (-1))) h hh
    refine ⟨e1, e2.trans ?_⟩
    have hi := hw.1.2.1
    rw [c1.1.2.1]
    have hl : (nI h < nI inns) = (h < inns) := nI_lt8 (by omega) (by omega)
    by_cases q : h < inns
    · rw [if_pos (hl ▸ q), c1.2.2.2.1 6 h (by omega) (by omega) q]
      exact (Wbd hw q).1
    · rw [if_neg (fun z => q (hl ▸ z)), bd_0 q]
  · have e := beg1_it (d := d) 6 (up m d 14 (-1)) s hs
    rw [beg2_off (by omega), beg2_off (by omega), beg2_off (by omega)]
    exact e
  · rw [beg2_off (by omega), beg1_off (by omega), up_at]
/-- how it stands when j men are lodged -/
def BgI (d t men inns fleet : Nat) (w : AMem) (j : Nat) (m : AMem) : Prop := CW t men inns fleet w m ∧ (∀ k, k < j → m (d + 1) k = (if w 1 k = nI 3 then nI 1 else nI 0) ∧ m (d + 2) k = nI 10 * w 3 k ∧ m (d + 3) k = plV inns w k ∧ m (d + 4) k = -1) ∧ (∀ h, h < 8 → m (d + 5) h = nI 0 ∧ m (d + 6) h = nI (bdN inns w h - cntN w j h)) ∧ (∀ s, s < 6 → m (d + 7) s = nI 0 ∧ m (d + 8) s = nI 0 ∧ m (d + 9) s = nI 0) ∧ m d 14 = -1
theorem BgI_s (htd : t + 10 < d) (hw : Wok men inns fleet w) {j : Nat} (hj : j < men) (h : BgI d t men inns fleet w j m) : BgI d t men inns fleet w (j + 1) (beg3 d t j m) := by
  obtain ⟨h1, h2, h3, h4, h5⟩ := h
  have hm8 := hw.1.1
  obtain ⟨le, l8⟩ := Wlo hw hj
  have w1 := h1.2.2.1 1 j (by omega) (by omega) hj
  have w3 := h1.2.2.1 3 j (by omega) (by omega) hj
  have w4 := h1.2.2.1 4 j (by omega) (by omega) hj
  refine ⟨CW_keep h1 (fun a j h1 h2 => beg3_t (by omega)), ?_⟩
  have hb := bd_lt (inns := inns) hw (loN w j)
  have hcn := cnt_le (w := w) (h := loN w j) j
  have hP : (nI 0 ≤ nI (loN w j) ∧ nI (loN w j) < nI 8) := nI_P l8 (by decide)
  unfold beg3
  rw [w1, w3, w4, le]
  simp only [bedV, bedW]
  have hf : up (up m (d + 1) j (if w 1 j = nI 3 then nI 1 else nI 0)) (d + 2) j (nI 10 * w 3 j) (d + 6) (loN w j) = nI (bdN inns w (loN w j) - cntN w j (loN w j)) := by
    rw [up_off (by omega), up_off (by omega)]
    exact (h3 _ l8).2
  rw [nI_cl8 (by omega), hf]
  have hq : ((nI 0 ≤ nI (loN w j) ∧ nI (loN w j) < nI 8) ∧ nI 0 < nI (bdN inns w (loN w j) - cntN w j (loN w j))) ↔ cntN w j (loN w j) < bdN inns w (loN w j) := ⟨fun z => by
    have := z.2
    rw [nI_lt8 (by omega) (by omega)] at this
    omega, fun z => ⟨hP, by rw [nI_lt8 (by omega) (by omega)]; omega⟩⟩
  by_cases q : cntN w j (loN w j) < bdN inns w (loN w j)
  · have q2 := hq.mpr q
    have hpl : plV inns w j = nI (loN w j) := if_pos q
    simp only [if_pos q2]
    refine ⟨fun k hk => ?_, fun h hh => ?_, fun s hs => ?_, ?_⟩
    · by_cases z : k = j
      · subst z
        simp [up_ap, hpl]
      · simp [up_ap, z]
        exact h2 k (by omega)
    · rw [cnt_s]
      by_cases z : h = loN w j
      · subst z
        simp [up_ap]
        refine ⟨(h3 _ hh).1, ?_⟩
        rw [nI_sub (by omega)]
        rw [Nat.sub_sub]
      · have z2 : ¬ loN w j = h := fun y => z y.symm
        simp [up_ap, z, z2]
        exact h3 h hh
    · simp [up_ap]
      exact h4 s hs
    · simp [up_ap]
      exact h5
  · have q2 := fun z => q (hq.mp z)
    have hpl : plV inns w j = -1 := if_neg q
    simp only [if_neg q2]
    refine ⟨fun k hk => ?_, fun h hh => ?_, fun s hs => ?_, ?_⟩
    · by_cases z : k = j
      · subst z
        simp [up_ap, hpl]
      · simp [up_ap, z]
        exact h2 k (by omega)
    · rw [cnt_s]
      by_cases z : h = loN w j
      · subst z
        simp [up_ap]
        refine ⟨(h3 _ hh).1, ?_⟩
        rw [(h3 _ hh).2, show bdN inns w (loN w j) - cntN w j (loN w j) = 0 by omega, show bdN inns w (loN w j) - (cntN w j (loN w j) + 1) = 0 by omega]
      · have z2 : ¬ loN w j = h := fun y => z y.symm
        simp [up_ap, z, z2]
        exact h3 h hh
    · simp [up_ap]
      exact h4 s hs
    · simp [up_ap]
      exact h5
theorem beg_class (htd : t + 10 < d) (hw : Wok men inns fleet w) (hc : CW t men inns fleet w m) : BgI d t men inns fleet w men (beginM d t men m) := by
  obtain ⟨p1, p2, p3, p4⟩ := beg_pre htd hw hc
  unfold beginM
  exact it_I (beg3 d t) (fun j m => BgI d t men inns fleet w j m) men (fun j hj m h => BgI_s htd hw hj h) _ ⟨p1, fun k hk => by omega, fun h hh => ⟨(p2 h hh).1, (p2 h hh).2⟩, p3, p4⟩ men (Nat.le_refl _)
theorem mb1_it : ∀ (n : Nat) (m : AMem), ∀ h, h < n → it n mb1 m 89 h = nI 0 := by
  intro n
  induction n with
  | zero => intro m s h; omega
  | succ n ih =>
    intro m s h
    rw [it_s]
    unfold mb1
    by_cases q : s = n
    · subst q
      rw [up_at]
    · rw [up_off (by omega)]
      exact ih m s (by omega)
def MgI (men inns fleet : Nat) (w : AMem) (j : Nat) (M : AMem) : Prop := MW men inns fleet w M ∧ (∀ k, k < j → M 86 k = (if w 1 k = nI 3 then nI 1 else nI 0) ∧ M 87 k = nI 10 * w 3 k ∧ M 88 k = plV inns w k ∧ M 93 k = -1) ∧ (∀ h, h < 8 → M 89 h = nI 0) ∧ (∀ s, s < 6 → M 90 s = nI 0 ∧ M 91 s = nI 0 ∧ M 92 s = nI 0) ∧ M 73 24 = -1
theorem bef_cnt (hw : Wok men inns fleet w) (hM : MW men inns fleet w M) {k : Nat} (hk : k < men) : befN k M = cntN w k (loN w k) := by
  unfold befN cntN
  refine it_congr (fun i hi c => ?_) 0
  have hi2 : i < men := by omega
  rw [show M 79 i = w 4 i from hM.2.2.1 4 i (by omega) (by omega) hi2, show M 79 k = w 4 k from hM.2.2.1 4 k (by omega) (by omega) hk, (Wlo hw hi2).1, (Wlo hw hk).1]
  have h1 := (Wlo hw hi2).2
  have h2 := (Wlo hw hk).2
  have he : (nI (loN w i) = nI (loN w k)) = (loN w i = loN w k) := nI_eq8 (by omega) (by omega)
  simp only [he]
theorem mbV_pl (hw : Wok men inns fleet w) (hM : MW men inns fleet w M) {k : Nat} (hk : k < men) : mbV k M = plV inns w k := by
  unfold mbV plV
  have h1 := (Wlo hw hk).2
  have hi := hw.1.2.1
  have hm8 := hw.1.1
  have hcn := cnt_le (w := w) (h := loN w k) k
  rw [bef_cnt hw hM hk, show M 79 k = w 4 k from hM.2.2.1 4 k (by omega) (by omega) hk, (Wlo hw hk).1, hM.1.2.1, nI_cl8 (by omega)]
  have hl : (nI (loN w k) < nI inns) = (loN w k < inns) := nI_lt8 (by omega) (by omega)
  by_cases q : loN w k < inns
  · rw [show M 81 (loN w k) = w 6 (loN w k) from hM.2.2.2.1 6 _ (by omega) (by omega) q, (Wbd hw q).1]
    have := bd_lt (inns := inns) hw (loN w k)
    have hl2 : (nI (cntN w k (loN w k)) < nI (bdN inns w (loN w k))) = (cntN w k (loN w k) < bdN inns w (loN w k)) := nI_lt8 (by omega) (by omega)
    simp only [hl, hl2, q, true_and]
  · rw [bd_0 q]
    simp [hl, q]
theorem MgI_s (hw : Wok men inns fleet w) {j : Nat} (hj : j < men) (h : MgI men inns fleet w j M) : MgI men inns fleet w (j + 1) (mb3 j M) := by
  obtain ⟨h1, h2, h3, h4, h5⟩ := h
  have e1 : M 76 j = w 1 j := h1.2.2.1 1 j (by omega) (by omega) hj
  have e3 : M 78 j = w 3 j := h1.2.2.1 3 j (by omega) (by omega) hj
  refine ⟨MW_keep h1 (fun i _ => by rw [mb3_row (by omega)]) (fun a h1 h2 => mb3_row (by omega)), ?_⟩
  unfold mb3
  rw [e1, e3, mbV_pl hw h1 hj]
  refine ⟨fun k hk => ?_, fun h hh => ?_, fun s hs => ?_, ?_⟩
  · by_cases z : k = j
    · subst z
      simp [up_ap]
    · simp [up_ap, z]
      exact h2 k (by omega)
  · simp [up_ap]
    exact h3 h hh
  · simp [up_ap]
    exact h4 s hs
  · simp [up_ap]
    exact h5
theorem beg_model (hw : Wok men inns fleet w) (hM : MW men inns fleet w M) : MgI men inns fleet w men (mBegM men M) := by
  unfold mBegM
  refine it_I mb3 (fun j M => MgI men inns fleet w j M) men (fun j hj M h => MgI_s hw hj h) _ ⟨MW_keep hM (fun j hj => ?_) (fun a h1 h2 => ?_), fun k hk => by omega, fun h hh => ?_, fun s hs => ?_, ?_⟩ men (Nat.le_refl _)
  · rw [up_off (by omega), it_row (fun k m => mb2_row (by omega)), it_row (fun k m => mb1_row (by omega))]
  · rw [up_row (by omega), it_row (fun k m => mb2_row (by omega)), it_row (fun k m => mb1_row (by omega))]
  · rw [up_row (by omega), it_row (fun k m => by unfold mb2; rw [up_row (by omega), up_row (by omega), up_row (by omega)])]
    exact mb1_it 8 M h hh
  · rw [up_row (by omega), up_row (by omega), up_row (by omega)]
    exact ⟨mb2_it (by omega) 6 _ hs, mb2_it (by omega) 6 _ hs, mb2_it (by omega) 6 _ hs⟩
  · rw [up_at]
theorem plV_N (hw : Wok men inns fleet w) {k : Nat} (hk : k < men) : PlN inns (plV inns w k) := by
  unfold plV
  by_cases q : cntN w k (loN w k) < bdN inns w (loN w k)
  · rw [if_pos q]
    refine Or.inr (Or.inl ⟨loN w k, ?_, rfl⟩)
    apply Decidable.byContradiction
    intro z
    rw [bd_0 z] at q
    omega
  · rw [if_neg q]
    exact Or.inl rfl
theorem sim_beg (htd : t + 10 < d) (hw : Wok men inns fleet w) (hc : CW t men inns fleet w m) (hM : MW men inns fleet w M) : Sim d men inns (beginM d t men m) (mBegM men M) := by
  obtain ⟨a1, a2, a3, a4, a5⟩ := beg_class htd hw hc
  obtain ⟨b1, b2, b3, b4, b5⟩ := beg_model hw hM
  refine ⟨fun k hk => ?_, fun h hh => ?_, fun s hs => ?_, a5.trans b5.symm, fun k hk => ?_⟩
  · obtain ⟨c1, c2, c3, c4⟩ := a2 k hk
    obtain ⟨d1, d2, d3, d4⟩ := b2 k hk
    exact ⟨c1.trans d1.symm, c2.trans d2.symm, c3.trans d3.symm, c4.trans d4.symm⟩
  · exact (a3 h hh).1.trans (b3 h hh).symm
  · obtain ⟨c1, c2, c3⟩ := a4 s hs
    obtain ⟨d1, d2, d3⟩ := b4 s hs
    exact ⟨c1.trans d1.symm, c2.trans d2.symm, c3.trans d3.symm⟩
  · rw [(b2 k hk).2.2.1]
    exact plV_N hw hk
end SIMB
