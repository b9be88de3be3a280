section FIT
variable {S : AScr} {f : Nat} {m : AMem} {Rt : Option Value → AMem → Prop} {men inns fleet c : Nat} {sd sh su : Nat → Nat}
theorem Sg_keep {m2 : AMem} (h : Sg c sd sh su m) (h0 : m2 60 3 = m 60 3) (h1 : m2 61 = m 61) (h2 : m2 62 = m 62) (h3 : m2 63 = m 63) : Sg c sd sh su m2 := by
  unfold Sg
  rw [h0, h1, h2, h3]
  exact h
theorem Sg_far {m2 : AMem} (h : Sg c sd sh su m) (hk : ∀ a j, 60 ≤ a → a < 64 → m2 a j = m a j) : Sg c sd sh su m2 := Sg_keep h (hk 60 3 (by omega) (by omega)) (funext fun j => hk 61 j (by omega) (by omega)) (funext fun j => hk 62 j (by omega) (by omega)) (funext fun j => hk 63 j (by omega) (by omega))
theorem Sg_run (h : Sg c sd sh su m) : Sg c sd sh su (runM 44 19 men fleet m) := Sg_far h (fun a j h1 h2 => runM_t (by omega))
theorem Sg_up {k j : Nat} {v : Int32} (h : Sg c sd sh su m) (hk : k < 60) : Sg c sd sh su (up m k j v) := Sg_far h (fun a i h1 h2 => by rw [up_ap, if_neg (by omega)])
theorem Sg_upA {k : Nat} {g : Nat → Int32} (h : Sg c sd sh su m) (hk : k < 60) : Sg c sd sh su (upA m k g) := Sg_far h (fun a i h1 h2 => by rw [upA_ap, if_neg (by omega)])
theorem Sg_bec (h : Sg c sd sh su m) : Sg c sd sh su (becomeM m) := Sg_far h (fun a j h1 h2 => by rw [becomeM_row (by omega)])
theorem s_found {x : Int32} : T S (f + 1) 64 0 [some (.ref 0), some (.int x)] [] m Rt = Rt (some (.int (-10 - x))) (up m 0 11 x) := by
  simp only [u64_0, u64_1, u64_2, u64_5, u64_7, u64_8, u64_9]
theorem s_forgetS : T S (f + 1) 62 0 [some (.ref 0), none] [] m Rt = Rt (some (.int (m 60 3))) (up m 60 3 (nI 0)) := by
  simp only [u62_0, u62_1, u62_4, u62_7, u62_8, u62_9, u62_12, u62_13, u62_16, u62_17]
theorem s_seen {x y z : Int32} (h : Sg c sd sh su m) : T S (f + 4) 61 0 [some (.ref 0), some (.int x), some (.int y), some (.int z)] [] m Rt = if (nI 0 ≤ x ∧ x < nI 30) ∧ (¬ y < nI 0 ∧ ¬ nI 8 ≤ y) ∧ (¬ z < nI 0 ∧ z ≤ nI 999) then (if c < 8 then Rt (some (.int (nI (c + 1)))) (putS c x y z m) else Rt (some (.int (-4))) m) else Rt (some (.int (-2))) m := by
  by_cases q : (nI 0 ≤ x ∧ x < nI 30) ∧ (¬ y < nI 0 ∧ ¬ nI 8 ≤ y) ∧ (¬ z < nI 0 ∧ z ≤ nI 999)
  · rw [if_pos q]
    by_cases hc : c < 8
    · simp only [u61_0, u61_1, u61_4, u61_5, u61_6, u61_7, u61_10, s_moreS q h.1 hc, pu_some, pu_none, hc, if_true]
    · have hc8 : c = 8 := by have := h.2.1; omega
      have h8 : m 60 3 = nI 8 := by rw [h.1, hc8]
      simp only [u61_0, u61_1, u61_4, u61_5, u61_6, u61_7, u61_10, s_moreF q h8, pu_some, pu_none, hc, if_false]
  · rw [if_neg q]
    simp only [u61_0, u61_1, u61_4, u61_5, u61_6, u61_7, u61_10, s_moreB q, pu_some, pu_none]
/-- without which one ship the seen comes out so -/
def fitF (men inns fleet day c : Nat) (sd sh su : Nat → Nat) (k : Nat) (s : AMem × Int32) : AMem × Int32 :=
  let m2 := runM 44 19 men fleet (up s.1 19 4 (nI (2 ^ k)))
  let m3 := upA m2 59 (va_cpy (m2 57) (m2 59) (day * 8) (k * 8) 8)
  (m3, if outB inns sd sh su m3 c 0 = true then s.2 ||| nI (2 ^ k) else s.2)
def fitE (men inns fleet day c : Nat) (sd sh su : Nat → Nat) (m : AMem) : AMem × Int32 := it fleet (fitF men inns fleet day c sd sh su) (becomeM m, nI 0)
def TSg (men inns fleet c : Nat) (sd sh su : Nat → Nat) (m : AMem) : Prop := TT men inns fleet m ∧ Sg c sd sh su m
theorem fitF_T {day k : Nat} {s : AMem × Int32} (h : TSg men inns fleet c sd sh su s.1) : TSg men inns fleet c sd sh su (fitF men inns fleet day c sd sh su k s).1 :=
  ⟨TT_upA (TT_run (TT_up h.1 (by omega))) (by omega), Sg_upA (Sg_run (Sg_up h.2 (by omega))) (by omega)⟩
theorem fitE_T {day : Nat} (h : TS men inns fleet m) (hg : Sg c sd sh su m) : TSg men inns fleet c sd sh su (fitE men inns fleet day c sd sh su m).1 :=
  it_I (fitF men inns fleet day c sd sh su) (fun _ s => TSg men inns fleet c sd sh su s.1) fleet (fun k _ s hs => fitF_T hs) (becomeM m, nI 0) ⟨TT_bec h, Sg_bec hg⟩ _ (Nat.le_refl _)
theorem s_fits (h : TS men inns fleet m) (hg : Sg c sd sh su m) {day : Nat} (hd : day < 30) : T S (f + 5) 66 0 [some (.ref 0), some (.int (nI day)), none, none] [] m Rt = Rt (some (.int (fitE men inns fleet day c sd sh su m).2)) (fitE men inns fleet day c sd sh su m).1 := by
  have hf := h.2.2.2.2.2
  have hi := h.2.2.2.2.1
  have e := it_run (fun k (s : AMem × Int32) => T S (f + 5) 66 15 [some (.ref 0), some (.int (nI day)), some (.int s.2), some (.int (nI k))] [] s.1 Rt) (fitF men inns fleet day c sd sh su) (fun _ s => TSg men inns fleet c sd sh su s.1) fleet (fun k _ s hs => fitF_T hs) (fun k hk s hs => by
    have hkm : ¬ fleet ≤ k := by omega
    have hk6 : k ≤ 6 := by omega
    have ht : TT men inns fleet (up s.1 19 4 (nI (2 ^ k))) := TT_up hs.1 (by omega)
    have h3 : TSg men inns fleet c sd sh su (fitF men inns fleet day c sd sh su k s).1 := fitF_T hs
    have c8 : ¬ nI 8 < 0 := by decide
    have ca : ¬ nI (day * 8) < 0 := fun z => nI_pos (n := day * 8) (by omega) z
    have cb : ¬ nI (k * 8) < 0 := fun z => nI_pos (n := k * 8) (by omega) z
    have e1 : (nI (day * 8)).toNatClampNeg = day * 8 := nI_cl8 (by omega)
    have e2 : (nI 8).toNatClampNeg = 8 := nI_cl8 (by omega)
    have e3 : (nI (k * 8)).toNatClampNeg = k * 8 := nI_cl8 (by omega)
    have l1 : (day * 8 + 8 ≤ 240) = True := by simp; omega
    have l2 : (k * 8 + 8 ≤ 48) = True := by simp; omega
    refine u66_15.trans ?_
    unfold fitF at h3 ⊢
    by_cases q : outB inns sd sh su (upA (runM 44 19 men fleet (up s.1 19 4 (nI (2 ^ k)))) 59 (va_cpy ((runM 44 19 men fleet (up s.1 19 4 (nI (2 ^ k)))) 57) ((runM 44 19 men fleet (up s.1 19 4 (nI (2 ^ k)))) 59) (day * 8) (k * 8) 8)) c 0 = true
    · simp (disch := omega) only [u66_0, u66_1, u66_2, u66_3, u66_6, u66_7, u66_10, u66_13, u66_14, u66_16, u66_17, u66_20, u66_23, u66_26, u66_27, u66_30, u66_31, u66_32, u66_33, u66_36, u66_37, u66_40, u66_43, u66_44, u66_47, u66_50, u66_51, u66_53, u66_54, u66_55, u66_58, u66_59, u66_61, u66_62, u66_64, u66_67, u66_68, u66_71, u66_72, u66_75, u66_78, u66_81, u66_82, u66_83, u66_84, u66_85, u66_86, u66_87, u66_90, u66_93, u66_94, hs.1.1.2.2.1, sh1 hk6, nI_le8, hkm, if_false, s_runO ht, pu_some, pu_none, nI_mul8, c8, ca, cb, e1, e2, e3, l1, l2, not_false_iff, true_and, and_self, s_out h3.2 h3.1.2.2.1 hi, b01_e0, q, not_true, if_true, nI_add]
    · simp (disch := omega) only [u66_0, u66_1, u66_2, u66_3, u66_6, u66_7, u66_10, u66_13, u66_14, u66_16, u66_17, u66_20, u66_23, u66_26, u66_27, u66_30, u66_31, u66_32, u66_33, u66_36, u66_37, u66_40, u66_43, u66_44, u66_47, u66_50, u66_51, u66_53, u66_54, u66_55, u66_58, u66_59, u66_61, u66_62, u66_64, u66_67, u66_68, u66_71, u66_72, u66_75, u66_78, u66_81, u66_82, u66_83, u66_84, u66_85, u66_86, u66_87, u66_90, u66_93, u66_94, hs.1.1.2.2.1, sh1 hk6, nI_le8, hkm, if_false, s_runO ht, pu_some, pu_none, nI_mul8, c8, ca, cb, e1, e2, e3, l1, l2, not_false_iff, true_and, and_self, s_out h3.2 h3.1.2.2.1 hi, b01_e0, q, Bool.false_eq_true, if_true, nI_add]) (becomeM m, nI 0) ⟨TT_bec h, Sg_bec hg⟩
  have hE := fitE_T (day := day) h hg
  refine Eq.trans ?_ (e.trans ?_)
  · simp only [u66_0, u66_1, u66_2, u66_3, u66_6, u66_7, u66_10, u66_13, u66_14, u66_16, u66_17, u66_20, u66_23, u66_26, u66_27, u66_30, u66_31, u66_32, u66_33, u66_36, u66_37, u66_40, u66_43, u66_44, u66_47, u66_50, u66_51, u66_53, u66_54, u66_55, u66_58, u66_59, u66_61, u66_62, u66_64, u66_67, u66_68, u66_71, u66_72, u66_75, u66_78, u66_81, u66_82, u66_83, u66_84, u66_85, u66_86, u66_87, u66_90, u66_93, u66_94, s_become, pu_some, pu_none]
  · refine u66_15.trans ?_
    rw [show it fleet (fitF men inns fleet day c sd sh su) (becomeM m, nI 0) = fitE men inns fleet day c sd sh su m from rfl]
    simp (disch := omega) only [u66_0, u66_1, u66_2, u66_3, u66_6, u66_7, u66_10, u66_13, u66_14, u66_16, u66_17, u66_20, u66_23, u66_26, u66_27, u66_30, u66_31, u66_32, u66_33, u66_36, u66_37, u66_40, u66_43, u66_44, u66_47, u66_50, u66_51, u66_53, u66_54, u66_55, u66_58, u66_59, u66_61, u66_62, u66_64, u66_67, u66_68, u66_71, u66_72, u66_75, u66_78, u66_81, u66_82, u66_83, u66_84, u66_85, u66_86, u66_87, u66_90, u66_93, u66_94, hE.1.1.2.2.1, nI_le8, Nat.le_refl, if_true]
theorem s_never (h : TS men inns fleet m) (hg : Sg c sd sh su m) : T S (f + 6) 65 0 [some (.ref 0)] [] m Rt = Rt (some (.int (fitE men inns fleet 0 c sd sh su m).2)) (fitE men inns fleet 0 c sd sh su m).1 := by
  have h0 : 0 < 30 := by decide
  simp only [u65_0, u65_1, u65_2, u65_5, s_fits h hg h0, pu_some, pu_none]
/-- what he may have been -/
def wasF (men inns fleet row x c : Nat) (sd sh su : Nat → Nat) (k : Nat) (s : AMem × Int32) : AMem × Int32 :=
  let m2 := runM 44 19 men fleet (up s.1 row x (nI k))
  (m2, if outB inns sd sh su m2 c 0 = true then s.2 ||| (nI 1 <<< (nI k &&& 31)) else s.2)
def wasE (men inns fleet row n x c : Nat) (sd sh su : Nat → Nat) (m : AMem) : AMem × Int32 := it n (wasF men inns fleet row x c sd sh su) (becomeM m, nI 0)
theorem wasF_T {row x k : Nat} {s : AMem × Int32} (hr : 20 ≤ row ∧ row < 60) (h : TSg men inns fleet c sd sh su s.1) : TSg men inns fleet c sd sh su (wasF men inns fleet row x c sd sh su k s).1 :=
  ⟨TT_run (TT_up h.1 (by omega)), Sg_run (Sg_up h.2 (by omega))⟩
theorem s_was (h : TS men inns fleet m) (hg : Sg c sd sh su m) {x w : Int32} : T S (f + 6) 67 0 [some (.ref 0), some (.int x), some (.int w), none, none, none, none] [] m Rt = if (nI 0 ≤ x ∧ x < nI men) ∧ (nI 0 ≤ w ∧ w < nI 2) then (if w = nI 0 then Rt (some (.int (wasE men inns fleet 20 4 x.toNatClampNeg c sd sh su m).2)) (wasE men inns fleet 20 4 x.toNatClampNeg c sd sh su m).1 else Rt (some (.int (wasE men inns fleet 21 10 x.toNatClampNeg c sd sh su m).2)) (wasE men inns fleet 21 10 x.toNatClampNeg c sd sh su m).1) else Rt (some (.int (-2))) m := by
  have hb := h.2.2.2.1
  have hi := h.2.2.2.2.1
  by_cases hx : nI 0 ≤ x ∧ x < nI men
  · by_cases hw : nI 0 ≤ w ∧ w < nI 2
    · obtain ⟨k0, hk0, rfl⟩ := P_nI hx (by omega)
      rw [if_pos ⟨hx, hw⟩, nI_cl8 (by omega)]
      have e4 := it_run (fun k (s : AMem × Int32) => T S (f + 6) 67 70 [some (.ref 0), some (.int (nI k0)), some (.int w), some (.ref 20), some (.int (nI 4)), some (.int s.2), some (.int (nI k))] [] s.1 Rt) (wasF men inns fleet 20 k0 c sd sh su) (fun _ s => TSg men inns fleet c sd sh su s.1) 4 (fun k _ s hs => wasF_T (by omega) hs) (fun k hk s hs => by
        have hkm : ¬ 4 ≤ k := by omega
        have hB : inB (nI k0) 8 = true := inB8 (by omega) (by decide)
        have ht : TT men inns fleet (up s.1 20 k0 (nI k)) := TT_up hs.1 (by omega)
        have h3 : TSg men inns fleet c sd sh su (wasF men inns fleet 20 k0 c sd sh su k s).1 := wasF_T (by omega) hs
        refine u67_70.trans ?_
        unfold wasF at h3 ⊢
        by_cases q : outB inns sd sh su (runM 44 19 men fleet (up s.1 20 k0 (nI k))) c 0 = true
        · simp (disch := omega) only [u67_0, u67_1, u67_2, u67_5, u67_8, u67_9, u67_10, u67_13, u67_16, u67_18, u67_19, u67_20, u67_23, u67_24, u67_27, u67_30, u67_31, u67_34, u67_35, u67_38, u67_41, u67_44, u67_45, u67_48, u67_51, u67_52, u67_53, u67_56, u67_57, u67_60, u67_62, u67_64, u67_65, u67_67, u67_68, u67_72, u67_74, u67_77, u67_78, u67_79, u67_81, u67_81v1, u67_82, u67_83, u67_86, u67_89, u67_90, u67_93, u67_94, u67_97, u67_100, u67_103, u67_105, u67_106, u67_108, u67_109, u67_110, u67_112, u67_115, u67_118, u67_120, nI_le8, hkm, if_false, hB, nI_cl8, true_and, s_runO ht, pu_some, pu_none, s_out h3.2 h3.1.2.2.1 hi, b01_e0, q, not_true, if_true, nI_add]
        · simp (disch := omega) only [u67_0, u67_1, u67_2, u67_5, u67_8, u67_9, u67_10, u67_13, u67_16, u67_18, u67_19, u67_20, u67_23, u67_24, u67_27, u67_30, u67_31, u67_34, u67_35, u67_38, u67_41, u67_44, u67_45, u67_48, u67_51, u67_52, u67_53, u67_56, u67_57, u67_60, u67_62, u67_64, u67_65, u67_67, u67_68, u67_72, u67_74, u67_77, u67_78, u67_79, u67_81, u67_81v1, u67_82, u67_83, u67_86, u67_89, u67_90, u67_93, u67_94, u67_97, u67_100, u67_103, u67_105, u67_106, u67_108, u67_109, u67_110, u67_112, u67_115, u67_118, u67_120, nI_le8, hkm, if_false, hB, nI_cl8, true_and, s_runO ht, pu_some, pu_none, s_out h3.2 h3.1.2.2.1 hi, b01_e0, q, Bool.false_eq_true, not_false_iff, if_true, nI_add]) (becomeM m, nI 0) ⟨TT_bec h, Sg_bec hg⟩
      have e10 := it_run (fun k (s : AMem × Int32) => T S (f + 6) 67 70 [some (.ref 0), some (.int (nI k0)), some (.int w), some (.ref 21), some (.int (nI 10)), some (.int s.2), some (.int (nI k))] [] s.1 Rt) (wasF men inns fleet 21 k0 c sd sh su) (fun _ s => TSg men inns fleet c sd sh su s.1) 10 (fun k _ s hs => wasF_T (by omega) hs) (fun k hk s hs => by
        have hkm : ¬ 10 ≤ k := by omega
        have hB : inB (nI k0) 8 = true := inB8 (by omega) (by decide)
        have ht : TT men inns fleet (up s.1 21 k0 (nI k)) := TT_up hs.1 (by omega)
        have h3 : TSg men inns fleet c sd sh su (wasF men inns fleet 21 k0 c sd sh su k s).1 := wasF_T (by omega) hs
        refine u67_70.trans ?_
        unfold wasF at h3 ⊢
        by_cases q : outB inns sd sh su (runM 44 19 men fleet (up s.1 21 k0 (nI k))) c 0 = true
        · simp (disch := omega) only [u67_0, u67_1, u67_2, u67_5, u67_8, u67_9, u67_10, u67_13, u67_16, u67_18, u67_19, u67_20, u67_23, u67_24, u67_27, u67_30, u67_31, u67_34, u67_35, u67_38, u67_41, u67_44, u67_45, u67_48, u67_51, u67_52, u67_53, u67_56, u67_57, u67_60, u67_62, u67_64, u67_65, u67_67, u67_68, u67_72, u67_74, u67_77, u67_78, u67_79, u67_81, u67_81v1, u67_82, u67_83, u67_86, u67_89, u67_90, u67_93, u67_94, u67_97, u67_100, u67_103, u67_105, u67_106, u67_108, u67_109, u67_110, u67_112, u67_115, u67_118, u67_120, nI_le8, hkm, if_false, hB, nI_cl8, true_and, s_runO ht, pu_some, pu_none, s_out h3.2 h3.1.2.2.1 hi, b01_e0, q, not_true, if_true, nI_add]
        · simp (disch := omega) only [u67_0, u67_1, u67_2, u67_5, u67_8, u67_9, u67_10, u67_13, u67_16, u67_18, u67_19, u67_20, u67_23, u67_24, u67_27, u67_30, u67_31, u67_34, u67_35, u67_38, u67_41, u67_44, u67_45, u67_48, u67_51, u67_52, u67_53, u67_56, u67_57, u67_60, u67_62, u67_64, u67_65, u67_67, u67_68, u67_72, u67_74, u67_77, u67_78, u67_79, u67_81, u67_81v1, u67_82, u67_83, u67_86, u67_89, u67_90, u67_93, u67_94, u67_97, u67_100, u67_103, u67_105, u67_106, u67_108, u67_109, u67_110, u67_112, u67_115, u67_118, u67_120, nI_le8, hkm, if_false, hB, nI_cl8, true_and, s_runO ht, pu_some, pu_none, s_out h3.2 h3.1.2.2.1 hi, b01_e0, q, Bool.false_eq_true, not_false_iff, if_true, nI_add]) (becomeM m, nI 0) ⟨TT_bec h, Sg_bec hg⟩
      by_cases w0 : w = nI 0
      · rw [if_pos w0]
        refine Eq.trans ?_ (e4.trans ?_)
        · simp only [u67_0, u67_1, u67_2, u67_5, u67_8, u67_9, u67_10, u67_13, u67_16, u67_18, u67_19, u67_20, u67_23, u67_24, u67_27, u67_30, u67_31, u67_34, u67_35, u67_38, u67_41, u67_44, u67_45, u67_48, u67_51, u67_52, u67_53, u67_56, u67_57, u67_60, u67_62, u67_64, u67_65, u67_67, u67_68, u67_72, u67_74, u67_77, u67_78, u67_79, u67_81, u67_81v1, u67_82, u67_83, u67_86, u67_89, u67_90, u67_93, u67_94, u67_97, u67_100, u67_103, u67_105, u67_106, u67_108, u67_109, u67_110, u67_112, u67_115, u67_118, u67_120, s_isMan h, s_isOneOf, pu_some, pu_none, b01_e0, hx, hw, and_self, not_true, if_false, s_become, w0, if_true, show (nI 0 ≤ nI 0 ∧ nI 0 < nI 2) = True by decide]
        · refine u67_70.trans ?_
          simp (disch := omega) only [u67_0, u67_1, u67_2, u67_5, u67_8, u67_9, u67_10, u67_13, u67_16, u67_18, u67_19, u67_20, u67_23, u67_24, u67_27, u67_30, u67_31, u67_34, u67_35, u67_38, u67_41, u67_44, u67_45, u67_48, u67_51, u67_52, u67_53, u67_56, u67_57, u67_60, u67_62, u67_64, u67_65, u67_67, u67_68, u67_72, u67_74, u67_77, u67_78, u67_79, u67_81, u67_81v1, u67_82, u67_83, u67_86, u67_89, u67_90, u67_93, u67_94, u67_97, u67_100, u67_103, u67_105, u67_106, u67_108, u67_109, u67_110, u67_112, u67_115, u67_118, u67_120, nI_le8, Nat.le_refl, if_true]
          rfl
      · rw [if_neg w0]
        refine Eq.trans ?_ (e10.trans ?_)
        · simp only [u67_0, u67_1, u67_2, u67_5, u67_8, u67_9, u67_10, u67_13, u67_16, u67_18, u67_19, u67_20, u67_23, u67_24, u67_27, u67_30, u67_31, u67_34, u67_35, u67_38, u67_41, u67_44, u67_45, u67_48, u67_51, u67_52, u67_53, u67_56, u67_57, u67_60, u67_62, u67_64, u67_65, u67_67, u67_68, u67_72, u67_74, u67_77, u67_78, u67_79, u67_81, u67_81v1, u67_82, u67_83, u67_86, u67_89, u67_90, u67_93, u67_94, u67_97, u67_100, u67_103, u67_105, u67_106, u67_108, u67_109, u67_110, u67_112, u67_115, u67_118, u67_120, s_isMan h, s_isOneOf, pu_some, pu_none, b01_e0, hx, hw, and_self, not_true, if_false, s_become, w0]
        · refine u67_70.trans ?_
          simp (disch := omega) only [u67_0, u67_1, u67_2, u67_5, u67_8, u67_9, u67_10, u67_13, u67_16, u67_18, u67_19, u67_20, u67_23, u67_24, u67_27, u67_30, u67_31, u67_34, u67_35, u67_38, u67_41, u67_44, u67_45, u67_48, u67_51, u67_52, u67_53, u67_56, u67_57, u67_60, u67_62, u67_64, u67_65, u67_67, u67_68, u67_72, u67_74, u67_77, u67_78, u67_79, u67_81, u67_81v1, u67_82, u67_83, u67_86, u67_89, u67_90, u67_93, u67_94, u67_97, u67_100, u67_103, u67_105, u67_106, u67_108, u67_109, u67_110, u67_112, u67_115, u67_118, u67_120, nI_le8, Nat.le_refl, if_true]
          rfl
    · simp only [u67_0, u67_1, u67_2, u67_5, u67_8, u67_9, u67_10, u67_13, u67_16, u67_18, u67_19, u67_20, u67_23, u67_24, u67_27, u67_30, u67_31, u67_34, u67_35, u67_38, u67_41, u67_44, u67_45, u67_48, u67_51, u67_52, u67_53, u67_56, u67_57, u67_60, u67_62, u67_64, u67_65, u67_67, u67_68, u67_72, u67_74, u67_77, u67_78, u67_79, u67_81, u67_81v1, u67_82, u67_83, u67_86, u67_89, u67_90, u67_93, u67_94, u67_97, u67_100, u67_103, u67_105, u67_106, u67_108, u67_109, u67_110, u67_112, u67_115, u67_118, u67_120, s_isMan h, s_isOneOf, pu_some, pu_none, b01_e0, hx, hw, and_self, and_false, not_true, not_false_iff, if_false, if_true]
  · simp only [u67_0, u67_1, u67_2, u67_5, u67_8, u67_9, u67_10, u67_13, u67_16, u67_18, u67_19, u67_20, u67_23, u67_24, u67_27, u67_30, u67_31, u67_34, u67_35, u67_38, u67_41, u67_44, u67_45, u67_48, u67_51, u67_52, u67_53, u67_56, u67_57, u67_60, u67_62, u67_64, u67_65, u67_67, u67_68, u67_72, u67_74, u67_77, u67_78, u67_79, u67_81, u67_81v1, u67_82, u67_83, u67_86, u67_89, u67_90, u67_93, u67_94, u67_97, u67_100, u67_103, u67_105, u67_106, u67_108, u67_109, u67_110, u67_112, u67_115, u67_118, u67_120, s_isMan h, pu_some, pu_none, b01_e0, hx, false_and, not_false_iff, if_true, if_false]
def alikeN (ships : Int32) (x fleet : Nat) (m : AMem) (a : Nat) : Nat := it fleet (fun b n => if ((ships >>> (nI a &&& 31)) &&& nI 1 = nI 1 ∧ (ships >>> (nI b &&& 31)) &&& nI 1 = nI 1) ∧ m 59 (a * 8 + x) = m 59 (b * 8 + x) then n + 1 else n) 0
def greatN (ships : Int32) (x fleet : Nat) (m : AMem) : Nat := it fleet (fun a g => if g < alikeN ships x fleet m a then alikeN ships x fleet m a else g) 0
theorem alike_le {ships : Int32} {x a : Nat} : ∀ n, it n (fun b n => if ((ships >>> (nI a &&& 31)) &&& nI 1 = nI 1 ∧ (ships >>> (nI b &&& 31)) &&& nI 1 = nI 1) ∧ m 59 (a * 8 + x) = m 59 (b * 8 + x) then n + 1 else n) 0 ≤ n := by
  intro n
  induction n with
  | zero => exact Nat.le_refl _
  | succ n ih =>
    rw [it_s]
    split
    · omega
    · omega
theorem great_le {ships : Int32} {x : Nat} : ∀ n, it n (fun a g => if g < alikeN ships x fleet m a then alikeN ships x fleet m a else g) 0 ≤ fleet := by
  intro n
  induction n with
  | zero => exact Nat.zero_le _
  | succ n ih =>
    rw [it_s]
    split
    · exact alike_le fleet
    · exact ih
set_option maxHeartbeats 1000000 in
theorem s_great (h : m 8 2 = nI fleet) (hf : fleet ≤ 6) {ships : Int32} {x : Nat} (hx : x < 8) : T S (f + 1) 69 0 [some (.ref 0), some (.int ships), some (.int (nI x)), none, none, none, none, none] [] m Rt = Rt (some (.int (nI (greatN ships x fleet m)))) m := by
  have eI : ∀ (a : Nat) (g : Int32) (l : Option Value), a < fleet → ∃ l2, T S (f + 1) 69 23 [some (.ref 0), some (.int ships), some (.int (nI x)), some (.int g), some (.int (nI a)), some (.int (nI 0)), some (.int (nI 0)), l] [] m Rt = T S (f + 1) 69 23 [some (.ref 0), some (.int ships), some (.int (nI x)), some (.int g), some (.int (nI a)), some (.int (nI (alikeN ships x fleet m a))), some (.int (nI fleet)), l2] [] m Rt := by
    intro a g l ha
    exact it_runL (fun b (n : Nat) (l : Option Value) => T S (f + 1) 69 23 [some (.ref 0), some (.int ships), some (.int (nI x)), some (.int g), some (.int (nI a)), some (.int (nI n)), some (.int (nI b)), l] [] m Rt) (fun b n => if ((ships >>> (nI a &&& 31)) &&& nI 1 = nI 1 ∧ (ships >>> (nI b &&& 31)) &&& nI 1 = nI 1) ∧ m 59 (a * 8 + x) = m 59 (b * 8 + x) then n + 1 else n) (fun _ _ => True) fleet (fun _ _ _ _ => trivial) (fun b hb n l _ => by
      have hle : ¬ fleet ≤ b := by omega
      have hB1 : inB (nI (a * 8 + x)) 48 = true := inB8 (by omega) (by decide)
      have hB2 : inB (nI (b * 8 + x)) 48 = true := inB8 (by omega) (by decide)
      by_cases q1 : (ships >>> (nI a &&& 31)) &&& nI 1 = nI 1
      · by_cases q2 : (ships >>> (nI b &&& 31)) &&& nI 1 = nI 1
        · refine ⟨some (.int (nI 1)), u69_23.trans ?_⟩
          by_cases q3 : m 59 (a * 8 + x) = m 59 (b * 8 + x)
          · simp (disch := omega) only [u69_0, u69_1, u69_2, u69_3, u69_7, u69_8, u69_11, u69_14, u69_17, u69_18, u69_20, u69_21, u69_25, u69_26, u69_29, u69_32, u69_35, u69_36, u69_38, u69_39, u69_40, u69_41, u69_42, u69_45, u69_46, u69_48, u69_49, u69_50, u69_51, u69_52, u69_55, u69_56, u69_59, u69_60, u69_62, u69_64, u69_67, u69_68, u69_71, u69_73, u69_75, u69_76, u69_77, u69_78, u69_79, u69_80, u69_83, u69_85, u69_87, u69_88, u69_89, u69_90, u69_91, u69_94, u69_97, u69_100, u69_103, u69_104, u69_106, u69_109, u69_110, u69_113, u69_116, u69_117, h, nI_le8, hle, if_false, q1, q2, if_true, show ¬ nI 1 = nI 0 by decide, nI_mul8, nI_add, hB1, hB2, nI_cl8, true_and, q3, and_self]
          · simp (disch := omega) only [u69_0, u69_1, u69_2, u69_3, u69_7, u69_8, u69_11, u69_14, u69_17, u69_18, u69_20, u69_21, u69_25, u69_26, u69_29, u69_32, u69_35, u69_36, u69_38, u69_39, u69_40, u69_41, u69_42, u69_45, u69_46, u69_48, u69_49, u69_50, u69_51, u69_52, u69_55, u69_56, u69_59, u69_60, u69_62, u69_64, u69_67, u69_68, u69_71, u69_73, u69_75, u69_76, u69_77, u69_78, u69_79, u69_80, u69_83, u69_85, u69_87, u69_88, u69_89, u69_90, u69_91, u69_94, u69_97, u69_100, u69_103, u69_104, u69_106, u69_109, u69_110, u69_113, u69_116, u69_117, h, nI_le8, hle, if_false, q1, q2, if_true, show ¬ nI 1 = nI 0 by decide, nI_mul8, nI_add, hB1, hB2, nI_cl8, true_and, q3, and_self]
        · refine ⟨some (.int (nI 0)), u69_23.trans ?_⟩
          simp (disch := omega) only [u69_0, u69_1, u69_2, u69_3, u69_7, u69_8, u69_11, u69_14, u69_17, u69_18, u69_20, u69_21, u69_25, u69_26, u69_29, u69_32, u69_35, u69_36, u69_38, u69_39, u69_40, u69_41, u69_42, u69_45, u69_46, u69_48, u69_49, u69_50, u69_51, u69_52, u69_55, u69_56, u69_59, u69_60, u69_62, u69_64, u69_67, u69_68, u69_71, u69_73, u69_75, u69_76, u69_77, u69_78, u69_79, u69_80, u69_83, u69_85, u69_87, u69_88, u69_89, u69_90, u69_91, u69_94, u69_97, u69_100, u69_103, u69_104, u69_106, u69_109, u69_110, u69_113, u69_116, u69_117, h, nI_le8, hle, if_false, q1, q2, if_true, nI_add, and_false, false_and]
      · refine ⟨some (.int (nI 0)), u69_23.trans ?_⟩
        simp (disch := omega) only [u69_0, u69_1, u69_2, u69_3, u69_7, u69_8, u69_11, u69_14, u69_17, u69_18, u69_20, u69_21, u69_25, u69_26, u69_29, u69_32, u69_35, u69_36, u69_38, u69_39, u69_40, u69_41, u69_42, u69_45, u69_46, u69_48, u69_49, u69_50, u69_51, u69_52, u69_55, u69_56, u69_59, u69_60, u69_62, u69_64, u69_67, u69_68, u69_71, u69_73, u69_75, u69_76, u69_77, u69_78, u69_79, u69_80, u69_83, u69_85, u69_87, u69_88, u69_89, u69_90, u69_91, u69_94, u69_97, u69_100, u69_103, u69_104, u69_106, u69_109, u69_110, u69_113, u69_116, u69_117, h, nI_le8, hle, if_false, q1, if_true, nI_add, false_and]) 0 l trivial
  obtain ⟨l2, e⟩ := it_runL (fun a (g : Nat) (l : Option Value × Option Value × Option Value) => T S (f + 1) 69 5 [some (.ref 0), some (.int ships), some (.int (nI x)), some (.int (nI g)), some (.int (nI a)), l.1, l.2.1, l.2.2] [] m Rt) (fun a g => if g < alikeN ships x fleet m a then alikeN ships x fleet m a else g) (fun _ g => g ≤ fleet) fleet (fun a _ g hg => by
      split
      · exact alike_le fleet
      · exact hg) (fun a ha g l hg => by
    have hle : ¬ fleet ≤ a := by omega
    obtain ⟨l2, eI⟩ := eI a (nI g) l.2.2 ha
    have hal : alikeN ships x fleet m a ≤ fleet := alike_le fleet
    refine ⟨(some (.int (nI (alikeN ships x fleet m a))), some (.int (nI fleet)), l2), u69_5.trans ?_⟩
    simp (disch := omega) only [u69_0, u69_1, u69_2, u69_3, u69_7, u69_8, u69_11, u69_14, u69_17, u69_18, u69_20, u69_21, u69_25, u69_26, u69_29, u69_32, u69_35, u69_36, u69_38, u69_39, u69_40, u69_41, u69_42, u69_45, u69_46, u69_48, u69_49, u69_50, u69_51, u69_52, u69_55, u69_56, u69_59, u69_60, u69_62, u69_64, u69_67, u69_68, u69_71, u69_73, u69_75, u69_76, u69_77, u69_78, u69_79, u69_80, u69_83, u69_85, u69_87, u69_88, u69_89, u69_90, u69_91, u69_94, u69_97, u69_100, u69_103, u69_104, u69_106, u69_109, u69_110, u69_113, u69_116, u69_117, h, nI_le8, hle, if_false]
    refine eI.trans (u69_23.trans ?_)
    by_cases q : g < alikeN ships x fleet m a
    · simp (disch := omega) only [u69_0, u69_1, u69_2, u69_3, u69_7, u69_8, u69_11, u69_14, u69_17, u69_18, u69_20, u69_21, u69_25, u69_26, u69_29, u69_32, u69_35, u69_36, u69_38, u69_39, u69_40, u69_41, u69_42, u69_45, u69_46, u69_48, u69_49, u69_50, u69_51, u69_52, u69_55, u69_56, u69_59, u69_60, u69_62, u69_64, u69_67, u69_68, u69_71, u69_73, u69_75, u69_76, u69_77, u69_78, u69_79, u69_80, u69_83, u69_85, u69_87, u69_88, u69_89, u69_90, u69_91, u69_94, u69_97, u69_100, u69_103, u69_104, u69_106, u69_109, u69_110, u69_113, u69_116, u69_117, h, nI_le8, Nat.le_refl, if_true, nI_lt8, q, nI_add]
    · simp (disch := omega) only [u69_0, u69_1, u69_2, u69_3, u69_7, u69_8, u69_11, u69_14, u69_17, u69_18, u69_20, u69_21, u69_25, u69_26, u69_29, u69_32, u69_35, u69_36, u69_38, u69_39, u69_40, u69_41, u69_42, u69_45, u69_46, u69_48, u69_49, u69_50, u69_51, u69_52, u69_55, u69_56, u69_59, u69_60, u69_62, u69_64, u69_67, u69_68, u69_71, u69_73, u69_75, u69_76, u69_77, u69_78, u69_79, u69_80, u69_83, u69_85, u69_87, u69_88, u69_89, u69_90, u69_91, u69_94, u69_97, u69_100, u69_103, u69_104, u69_106, u69_109, u69_110, u69_113, u69_116, u69_117, h, nI_le8, Nat.le_refl, if_true, nI_lt8, q, if_false, nI_add]) 0 (none, none, none) (Nat.zero_le _)
  refine Eq.trans ?_ (e.trans ?_)
  · simp only [u69_0, u69_1, u69_2, u69_3, u69_7, u69_8, u69_11, u69_14, u69_17, u69_18, u69_20, u69_21, u69_25, u69_26, u69_29, u69_32, u69_35, u69_36, u69_38, u69_39, u69_40, u69_41, u69_42, u69_45, u69_46, u69_48, u69_49, u69_50, u69_51, u69_52, u69_55, u69_56, u69_59, u69_60, u69_62, u69_64, u69_67, u69_68, u69_71, u69_73, u69_75, u69_76, u69_77, u69_78, u69_79, u69_80, u69_83, u69_85, u69_87, u69_88, u69_89, u69_90, u69_91, u69_94, u69_97, u69_100, u69_103, u69_104, u69_106, u69_109, u69_110, u69_113, u69_116, u69_117]
  · refine u69_5.trans ?_
    simp (disch := omega) only [u69_0, u69_1, u69_2, u69_3, u69_7, u69_8, u69_11, u69_14, u69_17, u69_18, u69_20, u69_21, u69_25, u69_26, u69_29, u69_32, u69_35, u69_36, u69_38, u69_39, u69_40, u69_41, u69_42, u69_45, u69_46, u69_48, u69_49, u69_50, u69_51, u69_52, u69_55, u69_56, u69_59, u69_60, u69_62, u69_64, u69_67, u69_68, u69_71, u69_73, u69_75, u69_76, u69_77, u69_78, u69_79, u69_80, u69_83, u69_85, u69_87, u69_88, u69_89, u69_90, u69_91, u69_94, u69_97, u69_100, u69_103, u69_104, u69_106, u69_109, u69_110, u69_113, u69_116, u69_117, h, nI_le8, Nat.le_refl, if_true]
    rfl
/-- the house to ask -/
def askF (ships : Int32) (fleet : Nat) (m : AMem) (k : Nat) (s : Option Nat × Nat) : Option Nat × Nat := if greatN ships k fleet m < s.2 then (some k, greatN ships k fleet m) else s
def askV (ships : Int32) (inns fleet : Nat) (m : AMem) : Option Nat × Nat := it inns (askF ships fleet m) (none, 7)
theorem s_ask (h : TS men inns fleet m) (hg : Sg c sd sh su m) {d : Int32} : T S (f + 6) 68 0 [some (.ref 0), some (.int d), none, none, none, none, none] [] m Rt = if nI 0 ≤ d ∧ d < nI 30 then Rt (some (.int (optI (askV (fitE men inns fleet d.toNatClampNeg c sd sh su m).2 inns fleet (fitE men inns fleet d.toNatClampNeg c sd sh su m).1).1))) (fitE men inns fleet d.toNatClampNeg c sd sh su m).1 else Rt (some (.int (-2))) m := by
  by_cases hd : nI 0 ≤ d ∧ d < nI 30
  · obtain ⟨y, hy, rfl⟩ := P_nI hd (by omega)
    rw [if_pos hd, nI_cl8 (by omega)]
    have hE := fitE_T (day := y) h hg
    have e0 := fun Rt => s_fits (S := S) (f := f) (Rt := Rt) h hg hy
    generalize fitE men inns fleet y c sd sh su m = E at hE e0
    have hf := hE.1.1.2.2.2.2.2
    have hi := hE.1.1.2.2.2.2.1
    have e := it_runL (fun k (s : Option Nat × Nat) (l : Option Value) => T S (f + 6) 68 25 [some (.ref 0), some (.int (nI y)), some (.int E.2), some (.int (optI s.1)), some (.int (nI s.2)), some (.int (nI k)), l] [] E.1 Rt) (askF E.2 fleet E.1) (fun _ s => s.2 ≤ 7) inns (fun k _ s hs => by
      unfold askF
      split
      · have := great_le (m := E.1) (ships := E.2) (x := k) (fleet := fleet) fleet
        unfold greatN
        simp only
        omega
      · exact hs) (fun k hk s l hs => by
      have hle : ¬ inns ≤ k := by omega
      have hk8 : k < 8 := by omega
      have hgr : greatN E.2 k fleet E.1 ≤ fleet := great_le fleet
      refine ⟨some (.int (nI (greatN E.2 k fleet E.1))), u68_25.trans ?_⟩
      unfold askF
      by_cases q : greatN E.2 k fleet E.1 < s.2
      · have q2 : ¬ s.2 ≤ greatN E.2 k fleet E.1 := by omega
        simp (disch := omega) only [u68_0, u68_1, u68_4, u68_7, u68_9, u68_10, u68_11, u68_12, u68_15, u68_16, u68_17, u68_18, u68_20, u68_22, u68_23, u68_27, u68_28, u68_31, u68_34, u68_37, u68_38, u68_39, u68_41, u68_44, u68_46, u68_48, u68_50, u68_53, u68_55, u68_56, u68_58, u68_60, u68_63, u68_66, u68_67, hE.1.1.2.1, nI_le8, hle, if_false, s_great hE.1.1.2.2.1 hf hk8, pu_some, pu_none, q, q2, if_true, nI_add, optI_some]
      · have q2 : s.2 ≤ greatN E.2 k fleet E.1 := by omega
        simp (disch := omega) only [u68_0, u68_1, u68_4, u68_7, u68_9, u68_10, u68_11, u68_12, u68_15, u68_16, u68_17, u68_18, u68_20, u68_22, u68_23, u68_27, u68_28, u68_31, u68_34, u68_37, u68_38, u68_39, u68_41, u68_44, u68_46, u68_48, u68_50, u68_53, u68_55, u68_56, u68_58, u68_60, u68_63, u68_66, u68_67, hE.1.1.2.1, nI_le8, hle, if_false, s_great hE.1.1.2.2.1 hf hk8, pu_some, pu_none, q, q2, if_true, nI_add]) (none, 7) none (Nat.le_refl _)
    obtain ⟨l2, e⟩ := e
    refine Eq.trans ?_ (e.trans ?_)
    · simp only [u68_0, u68_1, u68_4, u68_7, u68_9, u68_10, u68_11, u68_12, u68_15, u68_16, u68_17, u68_18, u68_20, u68_22, u68_23, u68_27, u68_28, u68_31, u68_34, u68_37, u68_38, u68_39, u68_41, u68_44, u68_46, u68_48, u68_50, u68_53, u68_55, u68_56, u68_58, u68_60, u68_63, u68_66, u68_67, s_isDay, pu_some, pu_none, b01_e0, hd, and_self, not_true, if_false, e0, optI_none]
    · refine u68_25.trans ?_
      simp (disch := omega) only [u68_0, u68_1, u68_4, u68_7, u68_9, u68_10, u68_11, u68_12, u68_15, u68_16, u68_17, u68_18, u68_20, u68_22, u68_23, u68_27, u68_28, u68_31, u68_34, u68_37, u68_38, u68_39, u68_41, u68_44, u68_46, u68_48, u68_50, u68_53, u68_55, u68_56, u68_58, u68_60, u68_63, u68_66, u68_67, hE.1.1.2.1, nI_le8, Nat.le_refl, if_true]
      rfl
  · simp only [u68_0, u68_1, u68_4, u68_7, u68_9, u68_10, u68_11, u68_12, u68_15, u68_16, u68_17, u68_18, u68_20, u68_22, u68_23, u68_27, u68_28, u68_31, u68_34, u68_37, u68_38, u68_39, u68_41, u68_44, u68_46, u68_48, u68_50, u68_53, u68_55, u68_56, u68_58, u68_60, u68_63, u68_66, u68_67, s_isDay, pu_some, pu_none, b01_e0, hd, not_false_iff, if_true, if_false]
end FIT
