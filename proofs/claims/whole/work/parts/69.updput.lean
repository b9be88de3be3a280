section UPP
variable {S : AScr} {m m0 m1 m2 m3 M X : AMem} {N N' : Nat → Nat} {B B' : Nat → Nat → Nat}
/-- what is wrong with an item of a sheet *as of* a form: 0 nothing -/
def lkV (s : Nat) (fo i : Int32) (m : AMem) : Nat := if m (65 + s) 1 = -1 then 1 else if m (65 + s) 1 = fo then (if nI 0 ≤ i ∧ i < m (65 + s) 2 then 0 else 2) else 3
theorem ref_lk {s : Nat} {fo i : Int32} (hf : nI 0 ≤ fo ∧ fo < nI 3) : refV s fo i m = (if lkV s fo i m = 0 then nI 0 else -10 - nI (lkV s fo i m)) ∧ refW s fo i m = (if lkV s fo i m = 0 then m else up m 0 11 (nI (lkV s fo i m))) := by
  unfold refV refW lkV
  rw [if_pos hf, if_pos hf]
  by_cases q1 : m (65 + s) 1 = -1
  · rw [if_pos q1, if_pos q1, if_pos q1]
    exact ⟨rfl, rfl⟩
  · rw [if_neg q1, if_neg q1, if_neg q1]
    by_cases q2 : m (65 + s) 1 = fo
    · rw [if_pos q2, if_pos q2, if_pos q2]
      by_cases q3 : nI 0 ≤ i ∧ i < m (65 + s) 2
      · rw [if_pos q3, if_pos q3, if_pos q3]
        exact ⟨rfl, rfl⟩
      · rw [if_neg q3, if_neg q3, if_neg q3]
        exact ⟨rfl, rfl⟩
    · rw [if_neg q2, if_neg q2, if_neg q2]
      exact ⟨rfl, rfl⟩
theorem ref_B {s : Nat} {fo i : Int32} (hf : ¬ (nI 0 ≤ fo ∧ fo < nI 3)) : refV s fo i m = -2 ∧ refW s fo i m = m := by
  unfold refV refW
  rw [if_neg hf, if_neg hf]
  exact ⟨rfl, rfl⟩
theorem lk_le {s : Nat} {fo i : Int32} : lkV s fo i m ≤ 3 := by
  unfold lkV
  repeat (first | split | omega)
theorem s_lacks {s : Nat} (hs : s < 4) (h : ShL s m) (hX : X 99 = m 99 ∧ X 100 = m 100 ∧ X 101 = m 101) {fo i : Int32} {f : Nat} {Rt : Option Value → AMem → Prop} : T S (f + 2) 167 0 [some (.ref 73), some (.int (nI s)), some (.int fo), some (.int i)] [] X Rt = Rt (some (.int (nI (lkV s fo i m)))) X := by
  have hB : inB (nI s) 4 = true := inB8 hs (by decide)
  have hcs : (nI s).toNatClampNeg = s := nI_cl8 (by omega)
  have hl := lost_e h
  obtain ⟨⟨n, hn, a1, a2⟩, hfm, a3⟩ := h
  have ei := in_sub (x := i) (n := n) (by omega)
  unfold lkV
  by_cases q1 : m (65 + s) 1 = -1
  · have hl2 : (m 99 s = nI 0) = True := by rw [hl]; exact eq_true q1
    rw [if_pos q1]
    simp only [u167_0, u167_1, u167_4, u167_5, u167_6, u167_9, u167_10, u167_13, u167_14, u167_17, u167_18, u167_19, u167_20, u167_23, u167_24, u167_27, u167_28, u167_29, u167_30, u167_33, u167_34, u167_35, u167_36, u167_37, u167_40, u167_43, u167_44, u167_47, u167_48, hB, hcs, true_and, hX.1, hl2, if_true]
  · have hl2 : (m 99 s = nI 0) = False := by rw [hl]; exact eq_false q1
    rw [if_neg q1]
    rcases hfm with ⟨b1, b2⟩ | ⟨fk, hfk, b1, b2, b3⟩
    · exact absurd b1 q1
    · rw [b1]
      by_cases q2 : nI fk = fo
      · have q2t : (nI fk = fo) = True := eq_true q2
        rw [if_pos q2, a1]
        by_cases q3 : nI 0 ≤ i ∧ i < nI n
        · have q3t : (nI 0 ≤ i ∧ i < nI n) = True := eq_true q3
          rw [if_pos q3]
          simp only [u167_0, u167_1, u167_4, u167_5, u167_6, u167_9, u167_10, u167_13, u167_14, u167_17, u167_18, u167_19, u167_20, u167_23, u167_24, u167_27, u167_28, u167_29, u167_30, u167_33, u167_34, u167_35, u167_36, u167_37, u167_40, u167_43, u167_44, u167_47, u167_48, hB, hcs, true_and, hX.1, hX.2.1, hX.2.2, hl2, if_false, b3, q2t, if_true, a2, s_mIn, ei, q3t, pu_some, pu_none, b01_e0, not_true]
        · have q3t : (nI 0 ≤ i ∧ i < nI n) = False := eq_false q3
          rw [if_neg q3]
          simp only [u167_0, u167_1, u167_4, u167_5, u167_6, u167_9, u167_10, u167_13, u167_14, u167_17, u167_18, u167_19, u167_20, u167_23, u167_24, u167_27, u167_28, u167_29, u167_30, u167_33, u167_34, u167_35, u167_36, u167_37, u167_40, u167_43, u167_44, u167_47, u167_48, hB, hcs, true_and, hX.1, hX.2.1, hX.2.2, hl2, if_false, b3, q2t, if_true, a2, s_mIn, ei, q3t, pu_some, pu_none, b01_e0, not_false_iff]
      · have q2t : (nI fk = fo) = False := eq_false q2
        rw [if_neg q2]
        simp only [u167_0, u167_1, u167_4, u167_5, u167_6, u167_9, u167_10, u167_13, u167_14, u167_17, u167_18, u167_19, u167_20, u167_23, u167_24, u167_27, u167_28, u167_29, u167_30, u167_33, u167_34, u167_35, u167_36, u167_37, u167_40, u167_43, u167_44, u167_47, u167_48, hB, hcs, true_and, hX.1, hX.2.1, hl2, if_false, b3, q2t]
theorem s_keep {s i : Nat} (hs : s < 4) (hi : i < 60) {v : Int32} {f : Nat} {Rt : Option Value → AMem → Prop} : T S (f + 1) 168 0 [some (.ref 73), some (.int (nI s)), some (.int (nI i)), some (.int v)] [] X Rt = Rt none (up X 102 (60 * s + i) (narF (X 100 s) v)) := by
  have hB : inB (nI s) 4 = true := inB8 hs (by decide)
  have hcs : (nI s).toNatClampNeg = s := nI_cl8 (by omega)
  have hB2 : inB (nI (60 * s + i)) 240 = true := inB8 (by omega) (by decide)
  have hc2 : (nI (60 * s + i)).toNatClampNeg = 60 * s + i := nI_cl8 (by omega)
  unfold narF
  by_cases q0 : X 100 s = nI 0
  · simp only [u168_0, u168_1, u168_4, u168_6, u168_7, u168_8, u168_9, u168_10, u168_11, u168_14, u168_15, u168_16, u168_19, u168_20, u168_21, u168_24, u168_25, u168_28, u168_29, u168_30, u168_31, u168_34, u168_35, u168_36, u168_39, u168_40, u168_41, hB, hcs, true_and, nI_mul8, nI_add, q0, if_true, hB2, hc2]
  · by_cases q1 : X 100 s = nI 1
    · simp only [u168_0, u168_1, u168_4, u168_6, u168_7, u168_8, u168_9, u168_10, u168_11, u168_14, u168_15, u168_16, u168_19, u168_20, u168_21, u168_24, u168_25, u168_28, u168_29, u168_30, u168_31, u168_34, u168_35, u168_36, u168_39, u168_40, u168_41, hB, hcs, true_and, nI_mul8, nI_add, q0, q1, if_true, if_false, hB2, hc2, show ¬ nI 1 = nI 0 by decide]
    · simp only [u168_0, u168_1, u168_4, u168_6, u168_7, u168_8, u168_9, u168_10, u168_11, u168_14, u168_15, u168_16, u168_19, u168_20, u168_21, u168_24, u168_25, u168_28, u168_29, u168_30, u168_31, u168_34, u168_35, u168_36, u168_39, u168_40, u168_41, hB, hcs, true_and, nI_mul8, nI_add, q0, q1, if_false, hB2, hc2]
theorem s_putN {s : Nat} (hs : s < 4) {fo i v : Int32} {f : Nat} {Rt : Option Value → AMem → Prop} : T S (f + 4) 75 0 [some (.ref 0), some (.int (nI s)), some (.int fo), some (.int i), some (.int v), none] [] m Rt = if refV s fo i m = nI 0 then Rt (some (.int (nI 1))) (setM s i v m) else Rt (some (.int (refV s fo i m))) (refW s fo i m) := by
  match s, hs with
  | 0, _ => exact s_put0
  | 1, _ => exact s_put1
  | 2, _ => exact s_put2
  | 3, _ => exact s_put3
theorem s_getN {s : Nat} (hs : s < 4) {fo i : Int32} {n : Nat} (h : Sh s n m) {f : Nat} {Rt : Option Value → AMem → Prop} : T S (f + 4) 77 0 [some (.ref 0), some (.int (nI s)), some (.int fo), some (.int i)] [] m Rt = if refV s fo i m = nI 0 then Rt (some (.int (m (69 + s) i.toNatClampNeg))) m else Rt (some (.int (-2147483648))) (refW s fo i m) := by
  match s, hs with
  | 0, _ => exact s_get0 h
  | 1, _ => exact s_get1 h
  | 2, _ => exact s_get2 h
  | 3, _ => exact s_get3 h
theorem ref_n0 {k : Nat} (h : k ≤ 3) : ¬ (-10 - nI k = nI 0) := by
  rcases (show k = 0 ∨ k = 1 ∨ k = 2 ∨ k = 3 by omega) with rfl | rfl | rfl | rfl <;> decide
theorem set_ShL (h : Bs N B m) (hc : Ca N B m) {s i : Nat} (hs : s < 4) (hi : i < 60) {v : Int32} : Bs N B (up (up m (69 + s) i v) 102 (60 * s + i) v) ∧ Ca N B (up (up m (69 + s) i v) 102 (60 * s + i) v) := by
  refine sheet_Bs h hc (fun a j h1 h2 h3 h4 => by rw [up_off (by omega), up_off (by omega)]) ?_ (fun s2 hs2 => ?_)
  · rw [up_row (by omega), up_row (by omega), up_row (by omega), up_row (by omega)]
    exact h.2.2.2.2.2.1
  · by_cases z : s2 = s
    · subst z
      obtain ⟨⟨n, hn, a1, a2⟩, hfm, a3⟩ := h.2.2.2.2.2.2 s2 hs
      unfold ShL
      rw [up_row (show 65 + s2 ≠ 102 by omega), up_row (show 65 + s2 ≠ 69 + s2 by omega), up_row (show 101 ≠ 102 by omega), up_row (show 101 ≠ 69 + s2 by omega), up_row (show 99 ≠ 102 by omega), up_row (show 99 ≠ 69 + s2 by omega), up_row (show 100 ≠ 102 by omega), up_row (show 100 ≠ 69 + s2 by omega)]
      refine ⟨⟨n, hn, a1, a2⟩, hfm, fun j hj => ?_⟩
      by_cases y : j = i
      · subst y
        rw [up_row (by omega), up_at, up_at]
      · rw [up_row (by omega), up_off (by omega), up_off (by omega), up_row (by omega)]
        exact a3 j hj
    · refine ShL_keep (h.2.2.2.2.2.2 s2 hs2) ?_ ?_ ?_ ?_ ?_ (fun j hj => ?_)
      · rw [up_row (by omega), up_row (by omega)]
      · rw [up_row (by omega), up_row (by omega)]
      · rw [up_row (by omega), up_row (by omega)]
      · rw [up_row (by omega), up_row (by omega)]
      · rw [up_row (by omega), up_row (by omega)]
      · rw [up_off (by omega), up_row (by omega)]
theorem lk_0 {s : Nat} {fo i : Int32} (h : lkV s fo i m = 0) : m (65 + s) 1 = fo ∧ ¬ m (65 + s) 1 = -1 ∧ nI 0 ≤ i ∧ i < m (65 + s) 2 := by
  unfold lkV at h
  split at h
  · cases h
  · rename_i q1
    split at h
    · rename_i q2
      split at h
      · rename_i q3
        exact ⟨q2, q1, q3.1, q3.2⟩
      · cases h
    · cases h
theorem p_put (h : Bs N B m) (hc : Ca N B m) {x fo i v : Int32} : PR S 75 166 [some (.ref 0), some (.int x), some (.int fo), some (.int i), some (.int v), none] [some (.ref 73), some (.int x), some (.int fo), some (.int i), some (.int v), none] m := by
  have ef : (fo ≤ nI 2) = (fo < nI 3) := le_lt1 (by decide)
  by_cases hx : nI 0 ≤ x ∧ x < nI 4
  · obtain ⟨s, hs, rfl⟩ := P_nI hx (by decide)
    have hxt : (nI 0 ≤ nI s ∧ nI s < nI 4) = True := eq_true hx
    have e1 := fun (f : Nat) (Rt : Option Value → AMem → Prop) => s_putN (S := S) (f := f + 9) (m := m) (Rt := Rt) (fo := fo) (i := i) (v := v) hs
    have hsh := h.2.2.2.2.2.2 s hs
    by_cases hf : nI 0 ≤ fo ∧ fo < nI 3
    · have hft : (nI 0 ≤ fo ∧ fo < nI 3) = True := eq_true hf
      obtain ⟨rv, rw2⟩ := ref_lk (m := m) (s := s) (fo := fo) (i := i) hf
      have hlk3 := lk_le (m := m) (s := s) (fo := fo) (i := i)
      rw [rv, rw2] at e1
      have el := fun (f : Nat) (X : AMem) (Rt : Option Value → AMem → Prop) (hX : X 99 = m 99 ∧ X 100 = m 100 ∧ X 101 = m 101) => s_lacks (S := S) (f := f) (fo := fo) (i := i) (Rt := Rt) hs hsh hX
      by_cases q : lkV s fo i m = 0
      · simp only [if_pos q] at e1
        obtain ⟨l1, l2, l3, l4⟩ := lk_0 q
        obtain ⟨⟨n, hn, a1, a2⟩, hfm, a3⟩ := hsh
        rw [a1] at l4
        obtain ⟨k, hk, rfl⟩ := P_nI ⟨l3, l4⟩ (by omega)
        have hform : m 100 s = m (65 + s) 1 := by
          rcases hfm with ⟨b1, b2⟩ | ⟨fk, hfk, b1, b2, b3⟩
          · exact absurd b1 l2
          · rw [b1, b3]
        have eset : setM s (nI k) v m = up m (69 + s) k (narF (m (65 + s) 1) v) := by
          unfold setM
          rw [if_pos ⟨⟨l3, nI_lt (by omega) (by decide)⟩, by rw [a1]; exact l4⟩, nI_cl8 (by omega)]
        rw [eset] at e1
        obtain ⟨k1, k2⟩ := set_ShL h hc hs (show k < 60 by omega) (v := narF (m (65 + s) 1) v)
        have hX : up m (69 + s) k (narF (m (65 + s) 1) v) 99 = m 99 ∧ up m (69 + s) k (narF (m (65 + s) 1) v) 100 = m 100 ∧ up m (69 + s) k (narF (m (65 + s) 1) v) 101 = m 101 := ⟨up_row (by omega), up_row (by omega), up_row (by omega)⟩
        refine ⟨(nI 1), up m (69 + s) k (narF (m (65 + s) 1) v), up (up m (69 + s) k (narF (m (65 + s) 1) v)) 102 (60 * s + k) (narF (m (65 + s) 1) v), N, B, k1, k2, fun f Rt => ?_, fun f Rt => ?_⟩
        · exact (e1 f Rt).trans (if_pos trivial)
        · have el2 := fun f Rt => el f _ Rt hX
          have ek := fun f Rt => s_keep (S := S) (f := f) (Rt := Rt) (X := up m (69 + s) k (narF (m (65 + s) 1) v)) (v := v) hs (show k < 60 by omega)
          rw [hX.2.1, hform] at ek
          have q2 : nI (lkV s fo (nI k) m) = nI 0 := by rw [q]
          simp only [u166_0, u166_1, u166_4, u166_7, u166_8, u166_9, u166_10, u166_13, u166_16, u166_18, u166_19, u166_20, u166_21, u166_22, u166_23, u166_26, u166_28, u166_30, u166_33, u166_34, u166_36, u166_39, u166_40, u166_41, u166_42, u166_43, u166_45, u166_48, u166_49, s_mSheet, s_mIn, pu_some, pu_none, b01_e0, hxt, ef, hft, not_true, if_false, el2, q2, Int32.le_refl, if_true, ek]
      · simp only [if_neg q] at e1
        have hne := ref_n0 hlk3
        have hX : up m 0 11 (nI (lkV s fo i m)) 99 = m 99 ∧ up m 0 11 (nI (lkV s fo i m)) 100 = m 100 ∧ up m 0 11 (nI (lkV s fo i m)) 101 = m 101 := ⟨up_row (by omega), up_row (by omega), up_row (by omega)⟩
        have el2 := fun f Rt => el f _ Rt hX
        have hgt : (nI (lkV s fo i m) ≤ nI 0) = False := by rw [nI_le8 (by omega) (by omega)]; exact eq_false (by omega)
        refine pr_find h hc (r := (-10 - nI (lkV s fo i m))) (v := nI (lkV s fo i m)) (fun f Rt => (e1 f Rt).trans (if_neg hne)) (fun f Rt => ?_)
        simp only [u166_0, u166_1, u166_4, u166_7, u166_8, u166_9, u166_10, u166_13, u166_16, u166_18, u166_19, u166_20, u166_21, u166_22, u166_23, u166_26, u166_28, u166_30, u166_33, u166_34, u166_36, u166_39, u166_40, u166_41, u166_42, u166_43, u166_45, u166_48, u166_49, s_mSheet, s_mIn, pu_some, pu_none, b01_e0, hxt, ef, hft, not_true, if_false, el2, hgt, s_meets]
    · obtain ⟨rv, rw2⟩ := ref_B (m := m) (s := s) (fo := fo) (i := i) hf
      rw [rv, rw2] at e1
      have hft : (nI 0 ≤ fo ∧ fo < nI 3) = False := eq_false hf
      refine pr_same h hc (r := -2) (fun f Rt => (e1 f Rt).trans (if_neg (by decide))) (fun f Rt => ?_)
      simp only [u166_0, u166_1, u166_4, u166_7, u166_8, u166_9, u166_10, u166_13, u166_16, u166_18, u166_19, u166_20, u166_21, u166_22, u166_23, u166_26, u166_28, u166_30, u166_33, u166_34, u166_36, u166_39, u166_40, u166_41, u166_42, u166_43, u166_45, u166_48, u166_49, s_mSheet, s_mIn, pu_some, pu_none, b01_e0, hxt, ef, hft, not_true, not_false_iff, if_false, if_true]
  · have hxt : (nI 0 ≤ x ∧ x < nI 4) = False := eq_false hx
    refine pr_same h hc (fun f Rt => s_putB (f := f + 9) hx) (fun f Rt => ?_)
    simp only [u166_0, u166_1, u166_4, u166_7, u166_8, u166_9, u166_10, u166_13, u166_16, u166_18, u166_19, u166_20, u166_21, u166_22, u166_23, u166_26, u166_28, u166_30, u166_33, u166_34, u166_36, u166_39, u166_40, u166_41, u166_42, u166_43, u166_45, u166_48, u166_49, s_mSheet, pu_some, pu_none, b01_e0, hxt, not_false_iff, if_true]
theorem p_get (h : Bs N B m) (hc : Ca N B m) {x fo i : Int32} : PR S 77 169 [some (.ref 0), some (.int x), some (.int fo), some (.int i)] [some (.ref 73), some (.int x), some (.int fo), some (.int i), none] m := by
  have ef : (fo ≤ nI 2) = (fo < nI 3) := le_lt1 (by decide)
  by_cases hx : nI 0 ≤ x ∧ x < nI 4
  · obtain ⟨s, hs, rfl⟩ := P_nI hx (by decide)
    have hxt : (nI 0 ≤ nI s ∧ nI s < nI 4) = True := eq_true hx
    have hsh := h.2.2.2.2.2.2 s hs
    obtain ⟨⟨n, hn, a1, a2⟩, hfm, a3⟩ := hsh
    have hSh : Sh s n m := ⟨a1, hn⟩
    have e1 := fun (f : Nat) (Rt : Option Value → AMem → Prop) => s_getN (S := S) (f := f + 9) (m := m) (Rt := Rt) (fo := fo) (i := i) hs hSh
    by_cases hf : nI 0 ≤ fo ∧ fo < nI 3
    · have hft : (nI 0 ≤ fo ∧ fo < nI 3) = True := eq_true hf
      obtain ⟨rv, rw2⟩ := ref_lk (m := m) (s := s) (fo := fo) (i := i) hf
      have hlk3 := lk_le (m := m) (s := s) (fo := fo) (i := i)
      rw [rv, rw2] at e1
      have el := fun (f : Nat) (X : AMem) (Rt : Option Value → AMem → Prop) (hX : X 99 = m 99 ∧ X 100 = m 100 ∧ X 101 = m 101) => s_lacks (S := S) (f := f) (fo := fo) (i := i) (Rt := Rt) hs (h.2.2.2.2.2.2 s hs) hX
      by_cases q : lkV s fo i m = 0
      · simp only [if_pos q] at e1
        obtain ⟨l1, l2, l3, l4⟩ := lk_0 q
        rw [a1] at l4
        obtain ⟨k, hk, rfl⟩ := P_nI ⟨l3, l4⟩ (by omega)
        have q2 : nI (lkV s fo (nI k) m) = nI 0 := by rw [q]
        have el2 := fun f Rt => el f m Rt ⟨rfl, rfl, rfl⟩
        have hB2 : inB (nI (60 * s + k)) 240 = true := inB8 (by omega) (by decide)
        have hc2 : (nI (60 * s + k)).toNatClampNeg = 60 * s + k := nI_cl8 (by omega)
        have hck : (nI k).toNatClampNeg = k := nI_cl8 (by omega)
        refine pr_same h hc (r := m (69 + s) k) (fun f Rt => (e1 f Rt).trans ?_) (fun f Rt => ?_)
        · rw [if_pos trivial, hck]
        · simp only [u169_0, u169_1, u169_4, u169_7, u169_8, u169_9, u169_10, u169_13, u169_16, u169_19, u169_20, u169_21, u169_22, u169_23, u169_24, u169_27, u169_29, u169_31, u169_34, u169_35, u169_37, u169_40, u169_43, u169_44, u169_45, u169_48, u169_50, u169_51, u169_52, u169_53, u169_54, u169_55, s_mSheet, s_mIn, pu_some, pu_none, b01_e0, hxt, ef, hft, not_true, if_false, el2, q2, Int32.le_refl, if_true, nI_mul8, nI_add, hB2, hc2, true_and, ← a3 k (show k < 60 by omega)]
      · simp only [if_neg q] at e1
        have hne := ref_n0 hlk3
        have hX : up m 0 11 (nI (lkV s fo i m)) 99 = m 99 ∧ up m 0 11 (nI (lkV s fo i m)) 100 = m 100 ∧ up m 0 11 (nI (lkV s fo i m)) 101 = m 101 := ⟨up_row (by omega), up_row (by omega), up_row (by omega)⟩
        have el2 := fun f Rt => el f _ Rt hX
        have hgt : (nI (lkV s fo i m) ≤ nI 0) = False := by rw [nI_le8 (by omega) (by omega)]; exact eq_false (by omega)
        refine pr_find h hc (r := (-2147483648)) (v := nI (lkV s fo i m)) (fun f Rt => (e1 f Rt).trans (if_neg hne)) (fun f Rt => ?_)
        simp only [u169_0, u169_1, u169_4, u169_7, u169_8, u169_9, u169_10, u169_13, u169_16, u169_19, u169_20, u169_21, u169_22, u169_23, u169_24, u169_27, u169_29, u169_31, u169_34, u169_35, u169_37, u169_40, u169_43, u169_44, u169_45, u169_48, u169_50, u169_51, u169_52, u169_53, u169_54, u169_55, s_mSheet, s_mIn, pu_some, pu_none, b01_e0, hxt, ef, hft, not_true, if_false, el2, hgt]
    · obtain ⟨rv, rw2⟩ := ref_B (m := m) (s := s) (fo := fo) (i := i) hf
      rw [rv, rw2] at e1
      have hft : (nI 0 ≤ fo ∧ fo < nI 3) = False := eq_false hf
      refine pr_same h hc (r := -2147483648) (fun f Rt => (e1 f Rt).trans (if_neg (by decide))) (fun f Rt => ?_)
      simp only [u169_0, u169_1, u169_4, u169_7, u169_8, u169_9, u169_10, u169_13, u169_16, u169_19, u169_20, u169_21, u169_22, u169_23, u169_24, u169_27, u169_29, u169_31, u169_34, u169_35, u169_37, u169_40, u169_43, u169_44, u169_45, u169_48, u169_50, u169_51, u169_52, u169_53, u169_54, u169_55, s_mSheet, s_mIn, pu_some, pu_none, b01_e0, hxt, ef, hft, not_true, not_false_iff, if_false, if_true]
  · have hxt : (nI 0 ≤ x ∧ x < nI 4) = False := eq_false hx
    refine pr_same h hc (fun f Rt => s_getB (f := f + 9) hx) (fun f Rt => ?_)
    simp only [u169_0, u169_1, u169_4, u169_7, u169_8, u169_9, u169_10, u169_13, u169_16, u169_19, u169_20, u169_21, u169_22, u169_23, u169_24, u169_27, u169_29, u169_31, u169_34, u169_35, u169_37, u169_40, u169_43, u169_44, u169_45, u169_48, u169_50, u169_51, u169_52, u169_53, u169_54, u169_55, s_mSheet, pu_some, pu_none, b01_e0, hxt, not_false_iff, if_true]
end UPP
