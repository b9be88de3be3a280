section SIMF
variable {men inns fleet d t : Nat} {w m M : AMem}
def tiN (w : AMem) (s : Nat) : Nat := (w 7 s).toNatClampNeg
theorem Wti (hw : Wok men inns fleet w) {s : Nat} (hs : s < fleet) : w 7 s = nI (tiN w s) ∧ tiN w s < 100 := by
  obtain ⟨a, ha, e⟩ := (hw.2.2.2.1 s hs).1
  have : tiN w s = a := by unfold tiN; rw [e, nI_cl8 (by omega)]
  rw [this]
  exact ⟨e, ha⟩
/-- no ship that is still to come has taken anybody -/
def Fr3 (fleet : Nat) (w : AMem) (day s0 : Nat) (M : AMem) : Prop := ∀ s, s < fleet → (day < tiN w s ∨ (tiN w s = day ∧ s0 ≤ s)) → M 90 s = nI 0 ∧ M 91 s = nI 0 ∧ M 92 s = nI 0
theorem comes_92 {s i : Nat} {day : Int32} (h : i ≠ s) : mComesM men s day M 92 i = M 92 i := by
  unfold mComesM cMid
  rw [it_row (fun k m => sail_row (by omega)), up_off (Or.inr h), it_row (fun k m => pick_row (by omega))]
def Jn (d t men inns fleet : Nat) (w : AMem) (day s0 : Nat) (m M : AMem) : Prop := CW t men inns fleet w m ∧ MW men inns fleet w M ∧ Sim d men inns m M ∧ Fr3 fleet w day s0 M
theorem absent_eq (hw : Wok men inns fleet w) {s : Nat} (hs : s < fleet) : ((w 0 4 >>> (nI s &&& 31)) &&& nI 1 = nI 0) = ¬ bitI (w 0 4) s = true := by
  obtain ⟨a, ha, e⟩ := hw.2.2.2.2.2
  have hf := hw.1.2.2
  rw [e, bitI_nI a (by omega) s (by omega)]
  have := bit_0 a (by omega) s (by omega)
  apply propext
  rw [this]
  simp
theorem sim_ship (hd : dd d t) (hw : Wok men inns fleet w) {s day : Nat} (hs : s < fleet) (hday : day < 100) (h : Jn d t men inns fleet w day s m M) : Jn d t men inns fleet w day (s + 1) (shipF d t men day s m) (shipG men day s M) := by
  obtain ⟨hc, hM, hS, hF⟩ := h
  refine ⟨CW_keep hc (fun a j h1 h2 => shipF_t (by rcases hd with ⟨rfl, rfl⟩ | ⟨rfl, rfl⟩ <;> omega)), MW_keep hM (fun j hj => shipG_73 hj) (fun a h1 h2 => shipG_row (by omega)), ?_, fun i hi hq => ?_⟩
  · unfold shipF shipG
    have e7 : m (t + 7) s = w 7 s := hc.2.2.2.2 7 s (by omega) (by omega) hs
    have e7M : M 82 s = w 7 s := hM.2.2.2.2 7 s (by omega) (by omega) hs
    have ea := absent_eq hw hs
    rw [e7, e7M, hc.2.1.2, hM.2.1.2]
    by_cases q : w 7 s = nI day ∧ ¬ bitI (w 0 4) s = true
    · rw [if_pos ⟨q.1, ea.mpr q.2⟩, if_pos q]
      have ht : tiN w s = day := by
        have := (Wti hw hs).1.symm.trans q.1
        have hl := (Wti hw hs).2
        rw [nI_eq8 (by omega) (by omega)] at this
        exact this
      obtain ⟨f0, f1, f2⟩ := hF s hs (by omega)
      exact sim_depart hd hw hc hM hS hs f0 f1 f2
    · rw [if_neg (fun z => q ⟨z.1, ea.mp z.2⟩), if_neg q]
      exact hS
  · have old := hF i hi (by omega)
    by_cases z : i = s
    · subst z
      have hn : ¬ (M 82 i = nI day ∧ ¬ bitI (M 73 16) i = true) := by
        intro y
        have e7M : M 82 i = w 7 i := hM.2.2.2.2 7 i (by omega) (by omega) hs
        have e := ((Wti hw hs).1.symm.trans e7M.symm).trans y.1
        have hl := (Wti hw hs).2
        rw [nI_eq8 (by omega) (by omega)] at e
        omega
      unfold shipG
      rw [if_neg hn]
      exact old
    · unfold shipG
      split
      · rw [comes_9 (by omega) z, comes_9 (by omega) z, comes_92 z]
        exact old
      · exact old
theorem keepM_row {day a : Nat} (h : a < d + 10 ∨ d + 13 < a) : keepM d day m a = m a := by
  unfold keepM
  rw [upA_ne (by omega), upA_ne (by omega), upA_ne (by omega), upA_ne (by omega)]
theorem Sim_keep {m2 : AMem} (h : Sim d men inns m M) (hk : ∀ a, d ≤ a → a < d + 10 → m2 a = m a) : Sim d men inns m2 M := by
  unfold Sim
  rw [hk d (by omega) (by omega), hk (d + 1) (by omega) (by omega), hk (d + 2) (by omega) (by omega), hk (d + 3) (by omega) (by omega), hk (d + 4) (by omega) (by omega), hk (d + 5) (by omega) (by omega), hk (d + 7) (by omega) (by omega), hk (d + 8) (by omega) (by omega), hk (d + 9) (by omega) (by omega)]
  exact h
theorem sim_day (hd : dd d t) (hw : Wok men inns fleet w) {day : Nat} (hday : day < 100) (h : Jn d t men inns fleet w day 0 m M) : Jn d t men inns fleet w (day + 1) 0 (dayM d t men fleet day m) (goesM men fleet day M) := by
  have h1 := it_sim (shipF d t men day) (shipG men day) (fun s m M => Jn d t men inns fleet w day s m M) fleet (fun s hs m M h => sim_ship hd hw hs hday h) m M h fleet (Nat.le_refl _)
  obtain ⟨hc, hM, hS, hF⟩ := h1
  have hp := sim_pays hd hw.1.2.1 hc hM hS
  have hdt : t + 10 < d := by rcases hd with ⟨rfl, rfl⟩ | ⟨rfl, rfl⟩ <;> omega
  unfold dayM goesM
  refine ⟨CW_keep hc (fun a j h1 h2 => ?_), MW_keep hM (fun j hj => ?_) (fun a h1 h2 => ?_), Sim_keep hp (fun a h1 h2 => keepM_row (by omega)), fun s hs hq => ?_⟩
  · rw [keepM_row (by omega)]
    exact it_at (fun k m => payM_t (by omega)) _
  · rw [it_row (fun k m => payG_row (by omega))]
  · exact it_row (fun k m => payG_row (by omega)) _ _
  · rw [it_row (fun k m => payG_row (by omega)), it_row (fun k m => payG_row (by omega)), it_row (fun k m => payG_row (by omega))]
    exact hF s hs (by omega)
/-- the class behind n days -/
def parM (d t men fleet n : Nat) (m : AMem) : AMem := it n (dayM d t men fleet) (beginM d t men m)
theorem sim_month (hd : dd d t) (hw : Wok men inns fleet w) (hc : CW t men inns fleet w m) (hM : MW men inns fleet w M) : ∀ n, n ≤ 90 → Jn d t men inns fleet w n 0 (parM d t men fleet n m) (it n (goesM men fleet) (mBegM men M)) := by
  have htd : t + 10 < d := by rcases hd with ⟨rfl, rfl⟩ | ⟨rfl, rfl⟩ <;> omega
  have b := beg_model hw hM
  refine it_sim (dayM d t men fleet) (goesM men fleet) (fun n m M => Jn d t men inns fleet w n 0 m M) 90 (fun n hn a b h => sim_day hd hw (by omega) h) _ _ ⟨CW_keep hc (fun a j h1 h2 => beginM_t (by omega)), b.1, sim_beg htd hw hc hM, fun s hs _ => b.2.2.2.1 s (by have := hw.1.2.2; omega)⟩
/-- the same, as the model's run to day z -/
theorem sim_z (hd : dd d t) (hw : Wok men inns fleet w) (hc : CW t men inns fleet w m) (hM : MW men inns fleet w M) {z : Nat} (hz : z < 90) : Sim d men inns (parM d t men fleet (z + 1) m) (mRunM men fleet z M) := (sim_month hd hw hc hM (z + 1) (by omega)).2.2.1
/-- canonical memories of a pure town -/
def eM (men inns fleet : Nat) (w : AMem) : AMem := fun a j => if a = 73 then (if j = 2 then nI men else if j = 7 then nI inns else if j = 10 then nI fleet else if j = 15 then w 0 3 else if j = 16 then w 0 4 else 0) else w (a - 75) j
def eC (men inns fleet : Nat) (w : AMem) : AMem := fun a j => if a = 8 then (if j = 0 then nI men else if j = 1 then nI inns else if j = 2 then nI fleet else w 0 j) else w (a - 8) j
theorem eM_ok : MW men inns fleet w (eM men inns fleet w) := by
  refine ⟨⟨rfl, rfl, rfl⟩, ⟨rfl, rfl⟩, fun i k h1 h2 h3 => ?_, fun i k h1 h2 h3 => ?_, fun i k h1 h2 h3 => ?_⟩
  all_goals
    unfold eM
    rw [if_neg (by omega), show 75 + i - 75 = i by omega]
theorem eC_ok : CW 8 men inns fleet w (eC men inns fleet w) := by
  refine ⟨⟨rfl, rfl, rfl⟩, ⟨rfl, rfl⟩, fun i k h1 h2 h3 => ?_, fun i k h1 h2 h3 => ?_, fun i k h1 h2 h3 => ?_⟩
  all_goals
    unfold eC
    rw [if_neg (by omega), show 8 + i - 8 = i by omega]
/-- THE MONTH of a pure town, behind day z -/
def rs (men inns fleet : Nat) (w : AMem) (z : Nat) : AMem := mRunM men fleet z (eM men inns fleet w)
def EqR (men : Nat) (M M2 : AMem) : Prop := (∀ k, k < men → M 86 k = M2 86 k ∧ M 87 k = M2 87 k ∧ M 88 k = M2 88 k ∧ M 93 k = M2 93 k) ∧ (∀ h, h < 8 → M 89 h = M2 89 h) ∧ (∀ s, s < 6 → M 90 s = M2 90 s ∧ M 91 s = M2 91 s ∧ M 92 s = M2 92 s) ∧ M 73 24 = M2 73 24
theorem EqR_of {M2 : AMem} (h : Sim d men inns m M) (h2 : Sim d men inns m M2) : EqR men M M2 := by
  refine ⟨fun k hk => ?_, fun h' hh => (h.2.1 h' hh).symm.trans (h2.2.1 h' hh), fun s hs => ?_, h.2.2.2.1.symm.trans h2.2.2.2.1⟩
  · obtain ⟨a1, a2, a3, a4⟩ := h.1 k hk
    obtain ⟨b1, b2, b3, b4⟩ := h2.1 k hk
    exact ⟨a1.symm.trans b1, a2.symm.trans b2, a3.symm.trans b3, a4.symm.trans b4⟩
  · obtain ⟨a1, a2, a3⟩ := h.2.2.1 s hs
    obtain ⟨b1, b2, b3⟩ := h2.2.2.1 s hs
    exact ⟨a1.symm.trans b1, a2.symm.trans b2, a3.symm.trans b3⟩
/-- the model's run gives the month -/
theorem mrun_rs (hw : Wok men inns fleet w) (hM : MW men inns fleet w M) {z : Nat} (hz : z < 90) : EqR men (mRunM men fleet z M) (rs men inns fleet w z) :=
  EqR_of (sim_z (Or.inl ⟨rfl, rfl⟩) hw eC_ok hM hz) (sim_z (Or.inl ⟨rfl, rfl⟩) hw eC_ok eM_ok hz)
/-- the class's run gives the month -/
theorem crun_rs (hd : dd d t) (hw : Wok men inns fleet w) (hc : CW t men inns fleet w m) {z : Nat} (hz : z < 90) : Sim d men inns (parM d t men fleet (z + 1) m) (rs men inns fleet w z) := sim_z hd hw hc eM_ok hz
theorem run_par : runM d t men fleet m = parM d t men fleet (29 + 1) m := rfl
theorem payM_row {k a : Nat} (h : d + 10 ≤ a) : payM d t k m a = m a := by
  unfold payM
  split
  · dsimp only
    rw [up_row (by omega), up_row (by omega), up_row (by omega)]
  · rfl
theorem takeM_row {s n k a : Nat} {day : Int32} (h : d + 10 ≤ a) : takeM d t s day n k m a = m a := by
  unfold takeM
  split
  · rw [up_row (by omega), up_row (by omega)]
  · unfold boardM
    split
    · rw [up_row (by omega), up_row (by omega), up_row (by omega), up_row (by omega), up_row (by omega), up_row (by omega)]
    · rw [up_row (by omega), up_row (by omega), up_row (by omega), up_row (by omega), up_row (by omega)]
theorem depL_row {s a : Nat} {day : Int32} (h : d + 10 ≤ a) : ∀ (r n : Nat) (m : AMem), depL d t men s day r n m a = m a := by
  intro r
  induction r with
  | zero => intro n m; rfl
  | succ r ih =>
    intro n m
    unfold depL
    split
    · cases (deepM d men (m (d + 7) s) m).1 with
      | none => rfl
      | some k => exact (ih _ _).trans (takeM_row h)
    · rfl
theorem shipF_row {day k a : Nat} (h : d + 10 ≤ a) : shipF d t men day k m a = m a := by
  unfold shipF
  split
  · unfold departM depE
    split
    · exact depL_row h _ _ _
    · rw [up_row (by omega), depL_row h]
  · rfl
theorem cpy_in {f g : Nat → Int32} {y k : Nat} (h : k < 8) : va_cpy f g 0 (8 * y) 8 (8 * y + k) = f k := by
  unfold va_cpy
  rw [if_pos (by omega)]
  congr 1
  omega
theorem cpy_out {f g : Nat → Int32} {y k : Nat} (h : k < 8 * y) : va_cpy f g 0 (8 * y) 8 k = g k := by
  unfold va_cpy
  rw [if_neg (by omega)]
theorem upA_at {m : AMem} {a : Nat} {f : Nat → Int32} : upA m a f a = f := by
  funext j
  rw [upA_ap, if_pos rfl]
theorem keep_now {y k : Nat} (hk : k < 8) : keepM d y m (d + 10) (8 * y + k) = m (d + 1) k ∧ keepM d y m (d + 11) (8 * y + k) = m (d + 2) k ∧ keepM d y m (d + 12) (8 * y + k) = m (d + 3) k ∧ keepM d y m (d + 13) (8 * y + k) = m (d + 5) k := by
  unfold keepM
  refine ⟨?_, ?_, ?_, ?_⟩
  · rw [upA_ne (by omega), upA_ne (by omega), upA_ne (by omega), upA_at, cpy_in hk]
  · rw [upA_ne (by omega), upA_ne (by omega), upA_at, cpy_in hk]
  · rw [upA_ne (by omega), upA_at, cpy_in hk]
  · rw [upA_at, cpy_in hk]
theorem keep_old {y j a : Nat} (hj : j < 8 * y) (ha : a = d + 10 ∨ a = d + 11 ∨ a = d + 12 ∨ a = d + 13) : keepM d y m a j = m a j := by
  unfold keepM
  rcases ha with rfl | rfl | rfl | rfl
  · rw [upA_ne (by omega), upA_ne (by omega), upA_ne (by omega), upA_at, cpy_out hj]
  · rw [upA_ne (by omega), upA_ne (by omega), upA_at, cpy_out hj]
  · rw [upA_ne (by omega), upA_at, cpy_out hj]
  · rw [upA_at, cpy_out hj]
theorem behind {z k : Nat} (hk : k < 8) : ∀ r, parM d t men fleet (z + 1 + r) m (d + 10) (8 * z + k) = parM d t men fleet (z + 1) m (d + 1) k ∧ parM d t men fleet (z + 1 + r) m (d + 11) (8 * z + k) = parM d t men fleet (z + 1) m (d + 2) k ∧ parM d t men fleet (z + 1 + r) m (d + 12) (8 * z + k) = parM d t men fleet (z + 1) m (d + 3) k ∧ parM d t men fleet (z + 1 + r) m (d + 13) (8 * z + k) = parM d t men fleet (z + 1) m (d + 5) k := by
  intro r
  induction r with
  | zero =>
    show keepM d z _ (d + 10) (8 * z + k) = keepM d z _ (d + 1) k ∧ keepM d z _ (d + 11) (8 * z + k) = keepM d z _ (d + 2) k ∧ keepM d z _ (d + 12) (8 * z + k) = keepM d z _ (d + 3) k ∧ keepM d z _ (d + 13) (8 * z + k) = keepM d z _ (d + 5) k
    rw [keepM_row (a := d + 1) (by omega), keepM_row (a := d + 2) (by omega), keepM_row (a := d + 3) (by omega), keepM_row (a := d + 5) (by omega)]
    exact keep_now hk
  | succ r ih =>
    have e : ∀ a, (a = d + 10 ∨ a = d + 11 ∨ a = d + 12 ∨ a = d + 13) → parM d t men fleet (z + 1 + (r + 1)) m a (8 * z + k) = parM d t men fleet (z + 1 + r) m a (8 * z + k) := fun a ha => by
      show keepM d (z + 1 + r) _ a (8 * z + k) = _
      rw [keep_old (by omega) ha, it_row (fun k m => payM_row (by omega)), it_row (fun k m => shipF_row (by omega))]
      rfl
    rw [e _ (by omega), e _ (by omega), e _ (by omega), e _ (by omega)]
    exact ih
/-- what the class keeps behind each day is the month -/
theorem behind_rs (hd : dd d t) (hw : Wok men inns fleet w) (hc : CW t men inns fleet w m) {z : Nat} (hz : z < 30) : (∀ k, k < men → runM d t men fleet m (d + 10) (8 * z + k) = rs men inns fleet w z 86 k ∧ runM d t men fleet m (d + 11) (8 * z + k) = rs men inns fleet w z 87 k ∧ runM d t men fleet m (d + 12) (8 * z + k) = rs men inns fleet w z 88 k) ∧ ∀ h, h < 8 → runM d t men fleet m (d + 13) (8 * z + h) = rs men inns fleet w z 89 h := by
  have hS := crun_rs hd hw hc (show z < 90 by omega)
  have h8 := hw.1.1
  have e : runM d t men fleet m = parM d t men fleet (z + 1 + (29 - z)) m := by
    rw [show z + 1 + (29 - z) = 30 by omega]
    rfl
  refine ⟨fun k hk => ?_, fun h hh => ?_⟩
  · obtain ⟨b1, b2, b3, b4⟩ := behind (d := d) (t := t) (men := men) (fleet := fleet) (m := m) (z := z) (show k < 8 by omega) (29 - z)
    obtain ⟨s1, s2, s3, s4⟩ := hS.1 k hk
    rw [e, b1, b2, b3]
    exact ⟨s1, s2, s3⟩
  · obtain ⟨b1, b2, b3, b4⟩ := behind (d := d) (t := t) (men := men) (fleet := fleet) (m := m) (z := z) hh (29 - z)
    rw [e, b4]
    exact hS.2.1 h hh
theorem run_rs (hd : dd d t) (hw : Wok men inns fleet w) (hc : CW t men inns fleet w m) : Sim d men inns (runM d t men fleet m) (rs men inns fleet w 29) := crun_rs hd hw hc (by decide)
end SIMF
