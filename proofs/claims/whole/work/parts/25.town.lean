section TOWN
variable {S : AScr} {f : Nat} {m : AMem} {Rt : Option Value → AMem → Prop}
theorem items_in {t n k : Nat} {b : Nat → Nat} (h : k < itemsN t n b) (hs : 0 < stp t) : k * stp t + stp t ≤ n + 1 := by
  unfold itemsN at h
  cases hq : ffN t n b with
  | some p => rw [hq] at h; simp at h
  | none =>
    rw [hq] at h
    have h1 : (k + 1) * stp t ≤ n + 1 := (Nat.le_div_iff_mul_le hs).mp h
    rw [Nat.add_mul] at h1
    omega
theorem items_le {t n c : Nat} {b : Nat → Nat} (h : n + 1 < (c + 1) * stp t) : itemsN t n b ≤ c := by
  unfold itemsN
  cases ffN t n b with
  | some p => exact Nat.zero_le _
  | none =>
    have : (n + 1) / stp t < c + 1 := Nat.div_lt_of_lt_mul (by rw [Nat.mul_comm]; exact h)
    show (n + 1) / stp t ≤ c
    omega
theorem Tx_keep {t n : Nat} {b : Nat → Nat} {m m2 : AMem} (h : Tx t n b m) (h1 : m2 (2 + t) = m (2 + t)) (h2 : m2 (5 + t) = m (5 + t)) : Tx t n b m2 := by
  refine ⟨by rw [h1]; exact h.1, h.2.1, fun p hp => by rw [h2]; exact h.2.2 p hp⟩
theorem up_row {m : AMem} {k j : Nat} {v : Int32} {k2 : Nat} (h : k2 ≠ k) : up m k j v k2 = m k2 := by
  funext i
  simp [up, h]
def tellMenF (b : Nat → Nat) (k : Nat) (m : AMem) : AMem := up (up (up (up (m) 9 k (kindV (nI (b (k * 5 + 0))))) 10 k (nI (b (k * 5 + 1)) - nI 48)) 11 k (nI (b (k * 5 + 2)) - nI 48)) 12 k (nI (b (k * 5 + 3)) - nI 48)
def tellMenM (n : Nat) (b : Nat → Nat) (m : AMem) : AMem := it (itemsN 0 n b) (tellMenF b) (up m 8 0 (nI (itemsN 0 n b)))
theorem tellMenF_row {b : Nat → Nat} {k a : Nat} (h : a < 8 ∨ 18 < a) : tellMenF b k m a = m a := by
  unfold tellMenF
  rw [up_row (by omega), up_row (by omega), up_row (by omega), up_row (by omega)]
theorem tellMenM_row {n : Nat} {b : Nat → Nat} {a : Nat} (h : a < 8 ∨ 18 < a) : tellMenM n b m a = m a := by
  unfold tellMenM
  generalize itemsN 0 n b = c
  have key : ∀ j : Nat, it j (tellMenF b) (up m 8 0 (nI c)) a = m a := by
    intro j
    induction j with
    | zero => exact up_row (by omega)
    | succ j ih => rw [it_s, tellMenF_row h, ih]
  exact key c
theorem s_tellMen {n : Nat} {b : Nat → Nat} (hT : Tx 0 n b m) : T S (f + 10) 23 0 [some (.ref 8), some (.ref 2), none] [] m Rt = Rt none (tellMenM n b m) := by
  have hn : n ≤ 39 := hT.2.1
  have hI : itemsN 0 n b ≤ 8 := items_le (by show n + 1 < (8 + 1) * 5; omega)
  have hmin : (if nI (itemsN 0 n b) < nI 8 then nI (itemsN 0 n b) else nI 8) = nI (itemsN 0 n b) := by
    by_cases hq : nI (itemsN 0 n b) < nI 8
    · rw [if_pos hq]
    · rw [if_neg hq]
      rw [nI_lt8 (by omega) (by decide)] at hq
      rw [show itemsN 0 n b = 8 by omega]
  have e := it_run (fun k (m : AMem) => T S (f + 10) 23 15 [some (.ref 8), some (.ref 2), some (.int (nI k))] [] m Rt) (tellMenF b) (fun _ m => m 8 0 = nI (itemsN 0 n b) ∧ Tx 0 n b m) (itemsN 0 n b) (fun k hk m h => ⟨by unfold tellMenF; rw [up_row (by decide), up_row (by decide), up_row (by decide), up_row (by decide)]; exact h.1, Tx_keep h.2 (tellMenF_row (by omega)) (tellMenF_row (by omega))⟩) (fun k hk m hm => by
    have hk6 : ¬ itemsN 0 n b ≤ k := by omega
    have hin := items_in hk (by decide)
    have hin : k * 5 + 5 ≤ n + 1 := hin
    have hkb : k < 8 := by omega
    have hp0 : k * 5 + 0 < n := by omega
    have hp1 : k * 5 + 1 < n := by omega
    have hp2 : k * 5 + 2 < n := by omega
    have hp3 : k * 5 + 3 < n := by omega
    have hT : ∀ m2 : AMem, m2 2 = m 2 → m2 5 = m 5 → Tx 0 n b m2 := fun m2 a1 a2 => Tx_keep hm.2 a1 a2
    refine u23_15.trans ?_
    simp (disch := omega) only [u23_0, u23_1, u23_3, u23_4, u23_4v1, u23_4v2, u23_7, u23_10, u23_13, u23_14, u23_16, u23_17, u23_20, u23_23, u23_24, u23_27, u23_28, u23_29, u23_30, u23_31, u23_31v1, u23_31v2, u23_34, u23_37, u23_38, u23_39, u23_42, u23_43, u23_44, u23_45, u23_46, u23_46v1, u23_46v2, u23_49, u23_50, u23_51, u23_54, u23_55, u23_56, u23_57, u23_58, u23_58v1, u23_58v2, u23_61, u23_62, u23_63, u23_66, u23_67, u23_68, u23_69, u23_70, u23_70v1, u23_70v2, u23_73, u23_74, u23_77, u23_80, hm.1, nI_le8, hk6, if_false, pu_some, pu_none, s_byteOf0 hm.2 hp0 (by decide) (by omega), s_kindOf (hm.2.2.2 _ hp0).2, s_figure0 (hT (up (m) 9 k (kindV (nI (b (k * 5 + 0))))) (by simp only [up_row (show (2 : Nat) ≠ 9 by decide), up_row (show (2 : Nat) ≠ 10 by decide), up_row (show (2 : Nat) ≠ 11 by decide), up_row (show (2 : Nat) ≠ 13 by decide), up_row (show (2 : Nat) ≠ 15 by decide), up_row (show (2 : Nat) ≠ 16 by decide), up_row (show (2 : Nat) ≠ 17 by decide)]) (by simp only [up_row (show (5 : Nat) ≠ 9 by decide), up_row (show (5 : Nat) ≠ 10 by decide), up_row (show (5 : Nat) ≠ 11 by decide), up_row (show (5 : Nat) ≠ 13 by decide), up_row (show (5 : Nat) ≠ 15 by decide), up_row (show (5 : Nat) ≠ 16 by decide), up_row (show (5 : Nat) ≠ 17 by decide)])) hp1 (by decide) (by omega), s_figure0 (hT (up (up (m) 9 k (kindV (nI (b (k * 5 + 0))))) 10 k (nI (b (k * 5 + 1)) - nI 48)) (by simp only [up_row (show (2 : Nat) ≠ 9 by decide), up_row (show (2 : Nat) ≠ 10 by decide), up_row (show (2 : Nat) ≠ 11 by decide), up_row (show (2 : Nat) ≠ 13 by decide), up_row (show (2 : Nat) ≠ 15 by decide), up_row (show (2 : Nat) ≠ 16 by decide), up_row (show (2 : Nat) ≠ 17 by decide)]) (by simp only [up_row (show (5 : Nat) ≠ 9 by decide), up_row (show (5 : Nat) ≠ 10 by decide), up_row (show (5 : Nat) ≠ 11 by decide), up_row (show (5 : Nat) ≠ 13 by decide), up_row (show (5 : Nat) ≠ 15 by decide), up_row (show (5 : Nat) ≠ 16 by decide), up_row (show (5 : Nat) ≠ 17 by decide)])) hp2 (by decide) (by omega), s_figure0 (hT (up (up (up (m) 9 k (kindV (nI (b (k * 5 + 0))))) 10 k (nI (b (k * 5 + 1)) - nI 48)) 11 k (nI (b (k * 5 + 2)) - nI 48)) (by simp only [up_row (show (2 : Nat) ≠ 9 by decide), up_row (show (2 : Nat) ≠ 10 by decide), up_row (show (2 : Nat) ≠ 11 by decide), up_row (show (2 : Nat) ≠ 13 by decide), up_row (show (2 : Nat) ≠ 15 by decide), up_row (show (2 : Nat) ≠ 16 by decide), up_row (show (2 : Nat) ≠ 17 by decide)]) (by simp only [up_row (show (5 : Nat) ≠ 9 by decide), up_row (show (5 : Nat) ≠ 10 by decide), up_row (show (5 : Nat) ≠ 11 by decide), up_row (show (5 : Nat) ≠ 13 by decide), up_row (show (5 : Nat) ≠ 15 by decide), up_row (show (5 : Nat) ≠ 16 by decide), up_row (show (5 : Nat) ≠ 17 by decide)])) hp3 (by decide) (by omega), inB8 hkb, nI_cl8, true_and, nI_add]
    rfl) (up m 8 0 (nI (itemsN 0 n b))) ⟨by simp [up_ap], Tx_keep hT (up_row (by decide)) (up_row (by decide))⟩
  have hend : (it (itemsN 0 n b) (tellMenF b) (up m 8 0 (nI (itemsN 0 n b)))) 8 0 = nI (itemsN 0 n b) := by
    have key : ∀ j : Nat, it j (tellMenF b) (up m 8 0 (nI (itemsN 0 n b))) 8 0 = nI (itemsN 0 n b) := by
      intro j
      induction j with
      | zero => simp [it_0, up_ap]
      | succ j ih =>
        rw [it_s]
        unfold tellMenF
        rw [up_row (by decide), up_row (by decide), up_row (by decide), up_row (by decide)]
        exact ih
    exact key _
  refine Eq.trans ?_ (e.trans ?_)
  · simp only [u23_0, u23_1, u23_3, u23_4, u23_4v1, u23_4v2, u23_7, u23_10, u23_13, u23_14, u23_16, u23_17, u23_20, u23_23, u23_24, u23_27, u23_28, u23_29, u23_30, u23_31, u23_31v1, u23_31v2, u23_34, u23_37, u23_38, u23_39, u23_42, u23_43, u23_44, u23_45, u23_46, u23_46v1, u23_46v2, u23_49, u23_50, u23_51, u23_54, u23_55, u23_56, u23_57, u23_58, u23_58v1, u23_58v2, u23_61, u23_62, u23_63, u23_66, u23_67, u23_68, u23_69, u23_70, u23_70v1, u23_70v2, u23_73, u23_74, u23_77, u23_80, s_items0 hT, pu_some, pu_none, hmin]
  · refine u23_15.trans ?_
    simp (disch := omega) only [u23_0, u23_1, u23_3, u23_4, u23_4v1, u23_4v2, u23_7, u23_10, u23_13, u23_14, u23_16, u23_17, u23_20, u23_23, u23_24, u23_27, u23_28, u23_29, u23_30, u23_31, u23_31v1, u23_31v2, u23_34, u23_37, u23_38, u23_39, u23_42, u23_43, u23_44, u23_45, u23_46, u23_46v1, u23_46v2, u23_49, u23_50, u23_51, u23_54, u23_55, u23_56, u23_57, u23_58, u23_58v1, u23_58v2, u23_61, u23_62, u23_63, u23_66, u23_67, u23_68, u23_69, u23_70, u23_70v1, u23_70v2, u23_73, u23_74, u23_77, u23_80, hend, nI_le8, Nat.le_refl, if_true]
    rfl
def tellInnsF (b : Nat → Nat) (k : Nat) (m : AMem) : AMem := up (up (m) 13 k (nI (b (k * 3 + 0)) - nI 48)) 14 k (nI (b (k * 3 + 1)) - nI 48)
def tellInnsM (n : Nat) (b : Nat → Nat) (m : AMem) : AMem := it (itemsN 1 n b) (tellInnsF b) (up m 8 1 (nI (itemsN 1 n b)))
theorem tellInnsF_row {b : Nat → Nat} {k a : Nat} (h : a < 8 ∨ 18 < a) : tellInnsF b k m a = m a := by
  unfold tellInnsF
  rw [up_row (by omega), up_row (by omega)]
theorem tellInnsM_row {n : Nat} {b : Nat → Nat} {a : Nat} (h : a < 8 ∨ 18 < a) : tellInnsM n b m a = m a := by
  unfold tellInnsM
  generalize itemsN 1 n b = c
  have key : ∀ j : Nat, it j (tellInnsF b) (up m 8 1 (nI c)) a = m a := by
    intro j
    induction j with
    | zero => exact up_row (by omega)
    | succ j ih => rw [it_s, tellInnsF_row h, ih]
  exact key c
theorem s_tellInns {n : Nat} {b : Nat → Nat} (hT : Tx 1 n b m) : T S (f + 10) 24 0 [some (.ref 8), some (.ref 3), none] [] m Rt = Rt none (tellInnsM n b m) := by
  have hn : n ≤ 23 := hT.2.1
  have hI : itemsN 1 n b ≤ 8 := items_le (by show n + 1 < (8 + 1) * 3; omega)
  have hmin : (if nI (itemsN 1 n b) < nI 8 then nI (itemsN 1 n b) else nI 8) = nI (itemsN 1 n b) := by
    by_cases hq : nI (itemsN 1 n b) < nI 8
    · rw [if_pos hq]
    · rw [if_neg hq]
      rw [nI_lt8 (by omega) (by decide)] at hq
      rw [show itemsN 1 n b = 8 by omega]
  have e := it_run (fun k (m : AMem) => T S (f + 10) 24 15 [some (.ref 8), some (.ref 3), some (.int (nI k))] [] m Rt) (tellInnsF b) (fun _ m => m 8 1 = nI (itemsN 1 n b) ∧ Tx 1 n b m) (itemsN 1 n b) (fun k hk m h => ⟨by unfold tellInnsF; rw [up_row (by decide), up_row (by decide)]; exact h.1, Tx_keep h.2 (tellInnsF_row (by omega)) (tellInnsF_row (by omega))⟩) (fun k hk m hm => by
    have hk6 : ¬ itemsN 1 n b ≤ k := by omega
    have hin := items_in hk (by decide)
    have hin : k * 3 + 3 ≤ n + 1 := hin
    have hkb : k < 8 := by omega
    have hp0 : k * 3 + 0 < n := by omega
    have hp1 : k * 3 + 1 < n := by omega
    have hT : ∀ m2 : AMem, m2 3 = m 3 → m2 6 = m 6 → Tx 1 n b m2 := fun m2 a1 a2 => Tx_keep hm.2 a1 a2
    refine u24_15.trans ?_
    simp (disch := omega) only [u24_0, u24_1, u24_3, u24_4, u24_4v1, u24_4v2, u24_7, u24_10, u24_13, u24_14, u24_16, u24_17, u24_20, u24_23, u24_24, u24_27, u24_28, u24_29, u24_30, u24_31, u24_31v1, u24_31v2, u24_34, u24_35, u24_36, u24_39, u24_40, u24_41, u24_42, u24_43, u24_43v1, u24_43v2, u24_46, u24_47, u24_50, u24_53, hm.1, nI_le8, hk6, if_false, pu_some, pu_none, s_figure1 hm.2 hp0 (by decide) (by omega), s_figure1 (hT (up (m) 13 k (nI (b (k * 3 + 0)) - nI 48)) (by simp only [up_row (show (3 : Nat) ≠ 9 by decide), up_row (show (3 : Nat) ≠ 10 by decide), up_row (show (3 : Nat) ≠ 11 by decide), up_row (show (3 : Nat) ≠ 13 by decide), up_row (show (3 : Nat) ≠ 15 by decide), up_row (show (3 : Nat) ≠ 16 by decide), up_row (show (3 : Nat) ≠ 17 by decide)]) (by simp only [up_row (show (6 : Nat) ≠ 9 by decide), up_row (show (6 : Nat) ≠ 10 by decide), up_row (show (6 : Nat) ≠ 11 by decide), up_row (show (6 : Nat) ≠ 13 by decide), up_row (show (6 : Nat) ≠ 15 by decide), up_row (show (6 : Nat) ≠ 16 by decide), up_row (show (6 : Nat) ≠ 17 by decide)])) hp1 (by decide) (by omega), inB8 hkb, nI_cl8, true_and, nI_add]
    rfl) (up m 8 1 (nI (itemsN 1 n b))) ⟨by simp [up_ap], Tx_keep hT (up_row (by decide)) (up_row (by decide))⟩
  have hend : (it (itemsN 1 n b) (tellInnsF b) (up m 8 1 (nI (itemsN 1 n b)))) 8 1 = nI (itemsN 1 n b) := by
    have key : ∀ j : Nat, it j (tellInnsF b) (up m 8 1 (nI (itemsN 1 n b))) 8 1 = nI (itemsN 1 n b) := by
      intro j
      induction j with
      | zero => simp [it_0, up_ap]
      | succ j ih =>
        rw [it_s]
        unfold tellInnsF
        rw [up_row (by decide), up_row (by decide)]
        exact ih
    exact key _
  refine Eq.trans ?_ (e.trans ?_)
  · simp only [u24_0, u24_1, u24_3, u24_4, u24_4v1, u24_4v2, u24_7, u24_10, u24_13, u24_14, u24_16, u24_17, u24_20, u24_23, u24_24, u24_27, u24_28, u24_29, u24_30, u24_31, u24_31v1, u24_31v2, u24_34, u24_35, u24_36, u24_39, u24_40, u24_41, u24_42, u24_43, u24_43v1, u24_43v2, u24_46, u24_47, u24_50, u24_53, s_items1 hT, pu_some, pu_none, hmin]
  · refine u24_15.trans ?_
    simp (disch := omega) only [u24_0, u24_1, u24_3, u24_4, u24_4v1, u24_4v2, u24_7, u24_10, u24_13, u24_14, u24_16, u24_17, u24_20, u24_23, u24_24, u24_27, u24_28, u24_29, u24_30, u24_31, u24_31v1, u24_31v2, u24_34, u24_35, u24_36, u24_39, u24_40, u24_41, u24_42, u24_43, u24_43v1, u24_43v2, u24_46, u24_47, u24_50, u24_53, hend, nI_le8, Nat.le_refl, if_true]
    rfl
def tellFleetF (b : Nat → Nat) (k : Nat) (m : AMem) : AMem := up (up (up (up (m) 15 k (nI 10 * (nI (b (k * 6 + 0)) - nI 48) + (nI (b (k * 6 + 1)) - nI 48))) 16 k (nI (b (k * 6 + 2)) - nI 48)) 17 k (nI (b (k * 6 + 3)) - nI 48)) 18 k (nI (b (k * 6 + 4)) - nI 48)
def tellFleetM (n : Nat) (b : Nat → Nat) (m : AMem) : AMem := it (itemsN 2 n b) (tellFleetF b) (up m 8 2 (nI (itemsN 2 n b)))
theorem tellFleetF_row {b : Nat → Nat} {k a : Nat} (h : a < 8 ∨ 18 < a) : tellFleetF b k m a = m a := by
  unfold tellFleetF
  rw [up_row (by omega), up_row (by omega), up_row (by omega), up_row (by omega)]
theorem tellFleetM_row {n : Nat} {b : Nat → Nat} {a : Nat} (h : a < 8 ∨ 18 < a) : tellFleetM n b m a = m a := by
  unfold tellFleetM
  generalize itemsN 2 n b = c
  have key : ∀ j : Nat, it j (tellFleetF b) (up m 8 2 (nI c)) a = m a := by
    intro j
    induction j with
    | zero => exact up_row (by omega)
    | succ j ih => rw [it_s, tellFleetF_row h, ih]
  exact key c
theorem s_tellFleet {n : Nat} {b : Nat → Nat} (hT : Tx 2 n b m) : T S (f + 10) 25 0 [some (.ref 8), some (.ref 4), none] [] m Rt = Rt none (tellFleetM n b m) := by
  have hn : n ≤ 35 := hT.2.1
  have hI : itemsN 2 n b ≤ 6 := items_le (by show n + 1 < (6 + 1) * 6; omega)
  have hmin : (if nI (itemsN 2 n b) < nI 6 then nI (itemsN 2 n b) else nI 6) = nI (itemsN 2 n b) := by
    by_cases hq : nI (itemsN 2 n b) < nI 6
    · rw [if_pos hq]
    · rw [if_neg hq]
      rw [nI_lt8 (by omega) (by decide)] at hq
      rw [show itemsN 2 n b = 6 by omega]
  have e := it_run (fun k (m : AMem) => T S (f + 10) 25 15 [some (.ref 8), some (.ref 4), some (.int (nI k))] [] m Rt) (tellFleetF b) (fun _ m => m 8 2 = nI (itemsN 2 n b) ∧ Tx 2 n b m) (itemsN 2 n b) (fun k hk m h => ⟨by unfold tellFleetF; rw [up_row (by decide), up_row (by decide), up_row (by decide), up_row (by decide)]; exact h.1, Tx_keep h.2 (tellFleetF_row (by omega)) (tellFleetF_row (by omega))⟩) (fun k hk m hm => by
    have hk6 : ¬ itemsN 2 n b ≤ k := by omega
    have hin := items_in hk (by decide)
    have hin : k * 6 + 6 ≤ n + 1 := hin
    have hkb : k < 6 := by omega
    have hp0 : k * 6 + 0 < n := by omega
    have hp1 : k * 6 + 1 < n := by omega
    have hp2 : k * 6 + 2 < n := by omega
    have hp3 : k * 6 + 3 < n := by omega
    have hp4 : k * 6 + 4 < n := by omega
    have hT : ∀ m2 : AMem, m2 4 = m 4 → m2 7 = m 7 → Tx 2 n b m2 := fun m2 a1 a2 => Tx_keep hm.2 a1 a2
    refine u25_15.trans ?_
    simp (disch := omega) only [u25_0, u25_1, u25_3, u25_4, u25_4v1, u25_4v2, u25_7, u25_10, u25_13, u25_14, u25_16, u25_17, u25_20, u25_23, u25_24, u25_27, u25_28, u25_30, u25_31, u25_32, u25_33, u25_33v1, u25_33v2, u25_36, u25_37, u25_38, u25_39, u25_40, u25_40v1, u25_40v2, u25_43, u25_44, u25_45, u25_46, u25_49, u25_50, u25_51, u25_52, u25_53, u25_53v1, u25_53v2, u25_56, u25_57, u25_58, u25_61, u25_62, u25_63, u25_64, u25_65, u25_65v1, u25_65v2, u25_68, u25_69, u25_70, u25_73, u25_74, u25_75, u25_76, u25_77, u25_77v1, u25_77v2, u25_80, u25_81, u25_84, u25_87, hm.1, nI_le8, hk6, if_false, pu_some, pu_none, s_figure2 hm.2 hp0 (by decide) (by omega), s_figure2 hm.2 hp1 (by decide) (by omega), s_figure2 (hT (up (m) 15 k (nI 10 * (nI (b (k * 6 + 0)) - nI 48) + (nI (b (k * 6 + 1)) - nI 48))) (by simp only [up_row (show (4 : Nat) ≠ 9 by decide), up_row (show (4 : Nat) ≠ 10 by decide), up_row (show (4 : Nat) ≠ 11 by decide), up_row (show (4 : Nat) ≠ 13 by decide), up_row (show (4 : Nat) ≠ 15 by decide), up_row (show (4 : Nat) ≠ 16 by decide), up_row (show (4 : Nat) ≠ 17 by decide)]) (by simp only [up_row (show (7 : Nat) ≠ 9 by decide), up_row (show (7 : Nat) ≠ 10 by decide), up_row (show (7 : Nat) ≠ 11 by decide), up_row (show (7 : Nat) ≠ 13 by decide), up_row (show (7 : Nat) ≠ 15 by decide), up_row (show (7 : Nat) ≠ 16 by decide), up_row (show (7 : Nat) ≠ 17 by decide)])) hp2 (by decide) (by omega), s_figure2 (hT (up (up (m) 15 k (nI 10 * (nI (b (k * 6 + 0)) - nI 48) + (nI (b (k * 6 + 1)) - nI 48))) 16 k (nI (b (k * 6 + 2)) - nI 48)) (by simp only [up_row (show (4 : Nat) ≠ 9 by decide), up_row (show (4 : Nat) ≠ 10 by decide), up_row (show (4 : Nat) ≠ 11 by decide), up_row (show (4 : Nat) ≠ 13 by decide), up_row (show (4 : Nat) ≠ 15 by decide), up_row (show (4 : Nat) ≠ 16 by decide), up_row (show (4 : Nat) ≠ 17 by decide)]) (by simp only [up_row (show (7 : Nat) ≠ 9 by decide), up_row (show (7 : Nat) ≠ 10 by decide), up_row (show (7 : Nat) ≠ 11 by decide), up_row (show (7 : Nat) ≠ 13 by decide), up_row (show (7 : Nat) ≠ 15 by decide), up_row (show (7 : Nat) ≠ 16 by decide), up_row (show (7 : Nat) ≠ 17 by decide)])) hp3 (by decide) (by omega), s_figure2 (hT (up (up (up (m) 15 k (nI 10 * (nI (b (k * 6 + 0)) - nI 48) + (nI (b (k * 6 + 1)) - nI 48))) 16 k (nI (b (k * 6 + 2)) - nI 48)) 17 k (nI (b (k * 6 + 3)) - nI 48)) (by simp only [up_row (show (4 : Nat) ≠ 9 by decide), up_row (show (4 : Nat) ≠ 10 by decide), up_row (show (4 : Nat) ≠ 11 by decide), up_row (show (4 : Nat) ≠ 13 by decide), up_row (show (4 : Nat) ≠ 15 by decide), up_row (show (4 : Nat) ≠ 16 by decide), up_row (show (4 : Nat) ≠ 17 by decide)]) (by simp only [up_row (show (7 : Nat) ≠ 9 by decide), up_row (show (7 : Nat) ≠ 10 by decide), up_row (show (7 : Nat) ≠ 11 by decide), up_row (show (7 : Nat) ≠ 13 by decide), up_row (show (7 : Nat) ≠ 15 by decide), up_row (show (7 : Nat) ≠ 16 by decide), up_row (show (7 : Nat) ≠ 17 by decide)])) hp4 (by decide) (by omega), inB8 hkb, nI_cl8, true_and, nI_add]
    rfl) (up m 8 2 (nI (itemsN 2 n b))) ⟨by simp [up_ap], Tx_keep hT (up_row (by decide)) (up_row (by decide))⟩
  have hend : (it (itemsN 2 n b) (tellFleetF b) (up m 8 2 (nI (itemsN 2 n b)))) 8 2 = nI (itemsN 2 n b) := by
    have key : ∀ j : Nat, it j (tellFleetF b) (up m 8 2 (nI (itemsN 2 n b))) 8 2 = nI (itemsN 2 n b) := by
      intro j
      induction j with
      | zero => simp [it_0, up_ap]
      | succ j ih =>
        rw [it_s]
        unfold tellFleetF
        rw [up_row (by decide), up_row (by decide), up_row (by decide), up_row (by decide)]
        exact ih
    exact key _
  refine Eq.trans ?_ (e.trans ?_)
  · simp only [u25_0, u25_1, u25_3, u25_4, u25_4v1, u25_4v2, u25_7, u25_10, u25_13, u25_14, u25_16, u25_17, u25_20, u25_23, u25_24, u25_27, u25_28, u25_30, u25_31, u25_32, u25_33, u25_33v1, u25_33v2, u25_36, u25_37, u25_38, u25_39, u25_40, u25_40v1, u25_40v2, u25_43, u25_44, u25_45, u25_46, u25_49, u25_50, u25_51, u25_52, u25_53, u25_53v1, u25_53v2, u25_56, u25_57, u25_58, u25_61, u25_62, u25_63, u25_64, u25_65, u25_65v1, u25_65v2, u25_68, u25_69, u25_70, u25_73, u25_74, u25_75, u25_76, u25_77, u25_77v1, u25_77v2, u25_80, u25_81, u25_84, u25_87, s_items2 hT, pu_some, pu_none, hmin]
  · refine u25_15.trans ?_
    simp (disch := omega) only [u25_0, u25_1, u25_3, u25_4, u25_4v1, u25_4v2, u25_7, u25_10, u25_13, u25_14, u25_16, u25_17, u25_20, u25_23, u25_24, u25_27, u25_28, u25_30, u25_31, u25_32, u25_33, u25_33v1, u25_33v2, u25_36, u25_37, u25_38, u25_39, u25_40, u25_40v1, u25_40v2, u25_43, u25_44, u25_45, u25_46, u25_49, u25_50, u25_51, u25_52, u25_53, u25_53v1, u25_53v2, u25_56, u25_57, u25_58, u25_61, u25_62, u25_63, u25_64, u25_65, u25_65v1, u25_65v2, u25_68, u25_69, u25_70, u25_73, u25_74, u25_75, u25_76, u25_77, u25_77v1, u25_77v2, u25_80, u25_81, u25_84, u25_87, hend, nI_le8, Nat.le_refl, if_true]
    rfl
def becomeM (m : AMem) : AMem := upA (upA (upA (upA (upA (upA (upA (upA (upA (upA (up (up (up (up (up (m) 19 0 (m 8 0)) 19 1 (m 8 1)) 19 2 (m 8 2)) 19 3 (m 8 3)) 19 4 (m 8 4)) 20 (va_cpy (m 9) (m 20) 0 0 8)) 21 (va_cpy (m 10) (m 21) 0 0 8)) 22 (va_cpy (m 11) (m 22) 0 0 8)) 23 (va_cpy (m 12) (m 23) 0 0 8)) 24 (va_cpy (m 13) (m 24) 0 0 8)) 25 (va_cpy (m 14) (m 25) 0 0 8)) 26 (va_cpy (m 15) (m 26) 0 0 6)) 27 (va_cpy (m 16) (m 27) 0 0 6)) 28 (va_cpy (m 17) (m 28) 0 0 6)) 29 (va_cpy (m 18) (m 29) 0 0 6)
theorem s_become : T S (f + 1) 29 0 [some (.ref 19), some (.ref 8)] [] m Rt = Rt none (becomeM m) := by
  have c0 : ¬ nI 0 < 0 := by decide
  have c8 : ¬ nI 8 < 0 := by decide
  have c6 : ¬ nI 6 < 0 := by decide
  have e1 : (nI 0).toNatClampNeg = 0 := nI_cl8 (by omega)
  have e2 : (nI 8).toNatClampNeg = 8 := nI_cl8 (by omega)
  have e3 : (nI 6).toNatClampNeg = 6 := nI_cl8 (by omega)
  have r1 : ∀ (m : AMem) (g : Nat → Int32) (k k2 : Nat), k2 ≠ k → upA m k g k2 = m k2 := fun m g k k2 h => upA_ne h
  simp (disch := decide) only [u29_0, u29_1, u29_2, u29_5, u29_8, u29_9, u29_10, u29_13, u29_16, u29_17, u29_18, u29_21, u29_24, u29_25, u29_26, u29_29, u29_32, u29_33, u29_34, u29_37, u29_40, u29_41, u29_44, u29_45, u29_46, u29_49, u29_50, u29_52, u29_55, u29_56, u29_59, u29_60, u29_61, u29_64, u29_65, u29_67, u29_70, u29_71, u29_74, u29_75, u29_76, u29_79, u29_80, u29_82, u29_85, u29_86, u29_89, u29_90, u29_91, u29_94, u29_95, u29_97, u29_100, u29_101, u29_104, u29_105, u29_106, u29_109, u29_110, u29_112, u29_115, u29_116, u29_119, u29_120, u29_121, u29_124, u29_125, u29_127, u29_130, u29_131, u29_134, u29_135, u29_136, u29_139, u29_140, u29_142, u29_145, u29_146, u29_149, u29_150, u29_151, u29_154, u29_155, u29_157, u29_160, u29_161, u29_164, u29_165, u29_166, u29_169, u29_170, u29_172, u29_175, u29_176, u29_179, u29_180, u29_181, u29_184, u29_185, u29_187, u29_190, c0, c8, c6, e1, e2, e3, not_false_iff, true_and, and_self, Nat.zero_add, Nat.le_refl, up_row, r1, up_ap, upA_ap, Nat.reduceEqDiff, false_and, true_and, and_true, and_false, and_self, if_false, if_true]
  rfl
def forgM (m : AMem) : AMem := up (up m 0 9 (nI 0)) 0 10 (nI 0)
theorem s_forget : T S (f + 1) 34 0 [some (.ref 0)] [] m Rt = Rt none (forgM m) := by
  simp only [u34_0, u34_1, u34_2, u34_2v1, u34_5, u34_6, u34_7, u34_7v1, u34_10]
  rfl
def tellM (n0 n1 n2 : Nat) (b0 b1 b2 : Nat → Nat) (m : AMem) : AMem := forgM (tellFleetM n2 b2 (tellInnsM n1 b1 (tellMenM n0 b0 m)))
theorem s_resize0 {n0 n1 n2 : Nat} {b0 b1 b2 : Nat → Nat} {x : Int32} (h0 : Tx 0 n0 b0 (up m 2 2 x)) (h1 : Tx 1 n1 b1 (up m 2 2 x)) (h2 : Tx 2 n2 b2 (up m 2 2 x)) : T S (f + 11) 33 0 [some (.ref 0), some (.ref 2), some (.int x)] [] m Rt = Rt (some (.int x)) (tellM n0 n1 n2 b0 b1 b2 (up m 2 2 x)) := by
  have k1 : Tx 1 n1 b1 (tellMenM n0 b0 (up m 2 2 x)) := Tx_keep h1 (tellMenM_row (by decide)) (tellMenM_row (by decide))
  have k2 : Tx 2 n2 b2 (tellInnsM n1 b1 (tellMenM n0 b0 (up m 2 2 x))) := Tx_keep (Tx_keep h2 (tellMenM_row (by decide)) (tellMenM_row (by decide))) (tellInnsM_row (by decide)) (tellInnsM_row (by decide))
  simp only [u33_0, u33_1, u33_2, u33_2v1, u33_2v2, u33_5, u33_6, u33_9, u33_10, u33_13, u33_14, u33_14v1, u33_14v2, u33_15, u33_18, u33_19, u33_22, u33_23, u33_26, u33_27, u33_27v1, u33_27v2, u33_28, u33_31, u33_32, u33_35, u33_36, u33_39, u33_40, u33_40v1, u33_40v2, u33_41, u33_44, u33_45, u33_48, u33_49, s_tellMen h0, s_tellInns k1, s_tellFleet k2, s_forget, pu_some, pu_none]
  rfl
theorem s_resize1 {n0 n1 n2 : Nat} {b0 b1 b2 : Nat → Nat} {x : Int32} (h0 : Tx 0 n0 b0 (up m 3 2 x)) (h1 : Tx 1 n1 b1 (up m 3 2 x)) (h2 : Tx 2 n2 b2 (up m 3 2 x)) : T S (f + 11) 33 0 [some (.ref 0), some (.ref 3), some (.int x)] [] m Rt = Rt (some (.int x)) (tellM n0 n1 n2 b0 b1 b2 (up m 3 2 x)) := by
  have k1 : Tx 1 n1 b1 (tellMenM n0 b0 (up m 3 2 x)) := Tx_keep h1 (tellMenM_row (by decide)) (tellMenM_row (by decide))
  have k2 : Tx 2 n2 b2 (tellInnsM n1 b1 (tellMenM n0 b0 (up m 3 2 x))) := Tx_keep (Tx_keep h2 (tellMenM_row (by decide)) (tellMenM_row (by decide))) (tellInnsM_row (by decide)) (tellInnsM_row (by decide))
  simp only [u33_0, u33_1, u33_2, u33_2v1, u33_2v2, u33_5, u33_6, u33_9, u33_10, u33_13, u33_14, u33_14v1, u33_14v2, u33_15, u33_18, u33_19, u33_22, u33_23, u33_26, u33_27, u33_27v1, u33_27v2, u33_28, u33_31, u33_32, u33_35, u33_36, u33_39, u33_40, u33_40v1, u33_40v2, u33_41, u33_44, u33_45, u33_48, u33_49, s_tellMen h0, s_tellInns k1, s_tellFleet k2, s_forget, pu_some, pu_none]
  rfl
theorem s_resize2 {n0 n1 n2 : Nat} {b0 b1 b2 : Nat → Nat} {x : Int32} (h0 : Tx 0 n0 b0 (up m 4 2 x)) (h1 : Tx 1 n1 b1 (up m 4 2 x)) (h2 : Tx 2 n2 b2 (up m 4 2 x)) : T S (f + 11) 33 0 [some (.ref 0), some (.ref 4), some (.int x)] [] m Rt = Rt (some (.int x)) (tellM n0 n1 n2 b0 b1 b2 (up m 4 2 x)) := by
  have k1 : Tx 1 n1 b1 (tellMenM n0 b0 (up m 4 2 x)) := Tx_keep h1 (tellMenM_row (by decide)) (tellMenM_row (by decide))
  have k2 : Tx 2 n2 b2 (tellInnsM n1 b1 (tellMenM n0 b0 (up m 4 2 x))) := Tx_keep (Tx_keep h2 (tellMenM_row (by decide)) (tellMenM_row (by decide))) (tellInnsM_row (by decide)) (tellInnsM_row (by decide))
  simp only [u33_0, u33_1, u33_2, u33_2v1, u33_2v2, u33_5, u33_6, u33_9, u33_10, u33_13, u33_14, u33_14v1, u33_14v2, u33_15, u33_18, u33_19, u33_22, u33_23, u33_26, u33_27, u33_27v1, u33_27v2, u33_28, u33_31, u33_32, u33_35, u33_36, u33_39, u33_40, u33_40v1, u33_40v2, u33_41, u33_44, u33_45, u33_48, u33_49, s_tellMen h0, s_tellInns k1, s_tellFleet k2, s_forget, pu_some, pu_none]
  rfl
end TOWN
