section SMALL
variable {S : AScr} {f : Nat} {m : AMem} {Rt : Option Value → AMem → Prop} {d t : Nat}
def usr (a b : Int32) : Int32 := (a.toUInt32 >>> (b.toUInt32 &&& Int32.toUInt32 31)).toInt32
def popM (x : Int32) : Int32 :=
  let a := x - (usr x (nI 1) &&& 1431655765)
  let b := (a &&& 858993459) + (usr a (nI 2) &&& 858993459)
  let c := (b + usr b (nI 4)) &&& 252645135
  let e := c + usr c (nI 8)
  let g := e + usr e (nI 16)
  g &&& nI 63
theorem s_pop {x : Int32} : T S (f + 1) 191 0 [some (.int x)] [] m Rt = Rt (some (.int (popM x))) m := by
  simp only [u191_0, u191_1, u191_2, u191_3, u191_4, u191_7, u191_8, u191_9, u191_10, u191_11, u191_14, u191_15, u191_16, u191_17, u191_18, u191_21, u191_22, u191_23, u191_24, u191_25, u191_26, u191_27, u191_28, u191_29, u191_32, u191_33, u191_34, u191_35, u191_36, u191_38, u191_39, u191_40, u191_41, u191_42, u191_43, u191_45, u191_46, u191_47, u191_48, u191_49, u191_51, u191_52]
  rfl
def ntzM (x : Int32) : Int32 :=
  let x0 := (x ^^^ (-1)) &&& (x - nI 1)
  if nI 0 < x0 then
    let a1 := if x0 ≤ 65536 then (nI 1, x0) else (nI 1 + nI 16, usr x0 (nI 16))
    let a2 := if a1.2 ≤ nI 256 then a1 else (a1.1 + nI 8, usr a1.2 (nI 8))
    let a3 := if a2.2 ≤ nI 16 then a2 else (a2.1 + nI 4, usr a2.2 (nI 4))
    let a4 := if a3.2 ≤ nI 4 then a3 else (a3.1 + nI 2, usr a3.2 (nI 2))
    a4.1 + usr a4.2 (nI 1)
  else x0 &&& nI 32
theorem s_ntz {x : Int32} : T S (f + 1) 192 0 [some (.int x), none] [] m Rt = Rt (some (.int (ntzM x))) m := by
  simp only [u192_0, u192_1, u192_2, u192_3, u192_4, u192_5, u192_6, u192_7, u192_8, u192_9, u192_12, u192_13, u192_15, u192_16, u192_17, u192_18, u192_19, u192_20, u192_23, u192_26, u192_29, u192_30, u192_32, u192_33, u192_34, u192_35, u192_38, u192_41, u192_44, u192_45, u192_47, u192_48, u192_49, u192_50, u192_52, u192_55, u192_58, u192_59, u192_60, u192_61, u192_62, u192_63, u192_64, u192_67, u192_70, u192_71, u192_72, u192_73, u192_74, u192_75, u192_76, u192_77, u192_78, u192_79]
  unfold ntzM usr
  generalize (x ^^^ (-1)) &&& (x - nI 1) = y
  by_cases h0 : nI 0 < y
  · simp only [h0, if_true]
    by_cases h1 : y ≤ 65536
    · simp only [h1, if_true]
      by_cases h2 : y ≤ nI 256
      · simp only [h2, if_true]
        by_cases h3 : y ≤ nI 16
        · simp only [h3, if_true]
          split <;> rfl
        · simp only [h3, if_false]
          split <;> rfl
      · simp only [h2, if_false]
        split
        · simp only [*, if_true]
          split <;> simp only [*, if_true, if_false]
        · simp only [*, if_false]
          split <;> simp only [*, if_true, if_false]
    · simp only [h1, if_false]
      repeat' split
      all_goals (first | rfl | simp_all)
  · simp only [h0, if_false]
def owedM (day : Nat) (x : Int32) (men : Nat) (m : AMem) : Int32 := it men (fun k (s : Int32) => if m 42 (day * 8 + k) = x then s + m 40 (day * 8 + k) else s) (nI 0)
theorem s_owedTo {men day : Nat} {x : Int32} (h8 : men ≤ 8) (hd : day < 30) (hm : m 8 0 = nI men) : T S (f + 1) 8 0 [some (.ref 30), some (.int x), some (.int (nI day)), none, none] [] m Rt = Rt (some (.int (owedM day x men m))) m := by
  have e := it_run (fun k (s : Int32) => T S (f + 1) 8 5 [some (.ref 30), some (.int x), some (.int (nI day)), some (.int s), some (.int (nI k))] [] m Rt) (fun k (s : Int32) => if m 42 (day * 8 + k) = x then s + m 40 (day * 8 + k) else s) (fun _ _ => True) men (fun _ _ _ _ => trivial) (fun k hk s _ => by
    have hkm : ¬ men ≤ k := by omega
    have hB : inB (nI (day * 8 + k)) 240 = true := inB8 (by omega) (by decide)
    refine u8_5.trans ?_
    by_cases h : m 42 (day * 8 + k) = x
    · simp (disch := omega) only [u8_0, u8_1, u8_2, u8_3, u8_7, u8_8, u8_11, u8_14, u8_17, u8_18, u8_21, u8_22, u8_24, u8_25, u8_27, u8_28, u8_29, u8_30, u8_33, u8_34, u8_35, u8_38, u8_39, u8_41, u8_42, u8_44, u8_45, u8_46, u8_47, u8_48, u8_51, u8_54, u8_55, hm, nI_le8, hkm, if_false, nI_mul8, nI_add, hB, nI_cl8, true_and, h, if_true]
    · simp (disch := omega) only [u8_0, u8_1, u8_2, u8_3, u8_7, u8_8, u8_11, u8_14, u8_17, u8_18, u8_21, u8_22, u8_24, u8_25, u8_27, u8_28, u8_29, u8_30, u8_33, u8_34, u8_35, u8_38, u8_39, u8_41, u8_42, u8_44, u8_45, u8_46, u8_47, u8_48, u8_51, u8_54, u8_55, hm, nI_le8, hkm, if_false, nI_mul8, nI_add, hB, nI_cl8, true_and, h]) (nI 0) trivial
  refine Eq.trans ?_ (e.trans ?_)
  · simp only [u8_0, u8_1, u8_2, u8_3, u8_7, u8_8, u8_11, u8_14, u8_17, u8_18, u8_21, u8_22, u8_24, u8_25, u8_27, u8_28, u8_29, u8_30, u8_33, u8_34, u8_35, u8_38, u8_39, u8_41, u8_42, u8_44, u8_45, u8_46, u8_47, u8_48, u8_51, u8_54, u8_55]
  · refine u8_5.trans ?_
    simp (disch := omega) only [u8_0, u8_1, u8_2, u8_3, u8_7, u8_8, u8_11, u8_14, u8_17, u8_18, u8_21, u8_22, u8_24, u8_25, u8_27, u8_28, u8_29, u8_30, u8_33, u8_34, u8_35, u8_38, u8_39, u8_41, u8_42, u8_44, u8_45, u8_46, u8_47, u8_48, u8_51, u8_54, u8_55, hm, nI_le8, Nat.le_refl, if_true]
    rfl
def soundM (d t s men : Nat) (m : AMem) : Int32 := it men (fun k (c : Int32) => if (m (d + 9) s >>> (nI k &&& 31)) &&& nI 1 = nI 1 ∧ (¬ m (t + 1) k = nI 2 ∧ ¬ m (t + 1) k = nI 3) then c + nI 1 else c) (nI 0)
theorem s_sound (hd : dd d t) {men s : Nat} (h8 : men ≤ 8) (hs : s < 6) (hm : m t 0 = nI men) : T S (f + 2) 9 0 [some (.ref d), some (.int (nI s)), none, none] [] m Rt = Rt (some (.int (soundM d t s men m))) m := by
  have e := it_run (fun k (c : Int32) => T S (f + 2) 9 4 [some (.ref d), some (.int (nI s)), some (.int c), some (.int (nI k))] [] m Rt) (fun k (c : Int32) => if (m (d + 9) s >>> (nI k &&& 31)) &&& nI 1 = nI 1 ∧ (¬ m (t + 1) k = nI 2 ∧ ¬ m (t + 1) k = nI 3) then c + nI 1 else c) (fun _ _ => True) men (fun _ _ _ _ => trivial) (fun k hk c _ => by
    have hkm : ¬ men ≤ k := by omega
    have hk8 : k < 8 := by omega
    refine u9_4.trans ?_
    rcases hd with ⟨rfl, rfl⟩ | ⟨rfl, rfl⟩
    · by_cases h1 : (m 39 s >>> (nI k &&& 31)) &&& nI 1 = nI 1
      · by_cases h2 : ¬ m 9 k = nI 2 ∧ ¬ m 9 k = nI 3
        · simp (disch := omega) only [u9_0, u9_1, u9_2, u9_3, u9_5, u9_6, u9_6v1, u9_9, u9_9v1, u9_12, u9_15, u9_16, u9_16v1, u9_19, u9_20, u9_20v1, u9_21, u9_22, u9_23, u9_24, u9_25, u9_26, u9_29, u9_30, u9_30v1, u9_33, u9_34, u9_34v1, u9_37, u9_40, u9_43, u9_46, u9_49, u9_50, hm, nI_le8, hkm, if_false, inB8 hs, nI_cl8, true_and, h1, if_true, s_isSound (Or.inl ⟨rfl, rfl⟩) hk8, pu_some, pu_none, b01_e0, h2, and_self, not_true, not_false_iff, nI_add, Nat.reduceAdd]
        · simp (disch := omega) only [u9_0, u9_1, u9_2, u9_3, u9_5, u9_6, u9_6v1, u9_9, u9_9v1, u9_12, u9_15, u9_16, u9_16v1, u9_19, u9_20, u9_20v1, u9_21, u9_22, u9_23, u9_24, u9_25, u9_26, u9_29, u9_30, u9_30v1, u9_33, u9_34, u9_34v1, u9_37, u9_40, u9_43, u9_46, u9_49, u9_50, hm, nI_le8, hkm, if_false, inB8 hs, nI_cl8, true_and, h1, if_true, s_isSound (Or.inl ⟨rfl, rfl⟩) hk8, pu_some, pu_none, b01_e0, h2, not_false_iff, nI_add, Nat.reduceAdd]
      · simp (disch := omega) only [u9_0, u9_1, u9_2, u9_3, u9_5, u9_6, u9_6v1, u9_9, u9_9v1, u9_12, u9_15, u9_16, u9_16v1, u9_19, u9_20, u9_20v1, u9_21, u9_22, u9_23, u9_24, u9_25, u9_26, u9_29, u9_30, u9_30v1, u9_33, u9_34, u9_34v1, u9_37, u9_40, u9_43, u9_46, u9_49, u9_50, hm, nI_le8, hkm, if_false, inB8 hs, nI_cl8, true_and, h1, false_and, nI_add, Nat.reduceAdd]
    · by_cases h1 : (m 53 s >>> (nI k &&& 31)) &&& nI 1 = nI 1
      · by_cases h2 : ¬ m 20 k = nI 2 ∧ ¬ m 20 k = nI 3
        · simp (disch := omega) only [u9_0, u9_1, u9_2, u9_3, u9_5, u9_6, u9_6v1, u9_9, u9_9v1, u9_12, u9_15, u9_16, u9_16v1, u9_19, u9_20, u9_20v1, u9_21, u9_22, u9_23, u9_24, u9_25, u9_26, u9_29, u9_30, u9_30v1, u9_33, u9_34, u9_34v1, u9_37, u9_40, u9_43, u9_46, u9_49, u9_50, hm, nI_le8, hkm, if_false, inB8 hs, nI_cl8, true_and, h1, if_true, s_isSound (Or.inr ⟨rfl, rfl⟩) hk8, pu_some, pu_none, b01_e0, h2, and_self, not_true, not_false_iff, nI_add, Nat.reduceAdd]
        · simp (disch := omega) only [u9_0, u9_1, u9_2, u9_3, u9_5, u9_6, u9_6v1, u9_9, u9_9v1, u9_12, u9_15, u9_16, u9_16v1, u9_19, u9_20, u9_20v1, u9_21, u9_22, u9_23, u9_24, u9_25, u9_26, u9_29, u9_30, u9_30v1, u9_33, u9_34, u9_34v1, u9_37, u9_40, u9_43, u9_46, u9_49, u9_50, hm, nI_le8, hkm, if_false, inB8 hs, nI_cl8, true_and, h1, if_true, s_isSound (Or.inr ⟨rfl, rfl⟩) hk8, pu_some, pu_none, b01_e0, h2, not_false_iff, nI_add, Nat.reduceAdd]
      · simp (disch := omega) only [u9_0, u9_1, u9_2, u9_3, u9_5, u9_6, u9_6v1, u9_9, u9_9v1, u9_12, u9_15, u9_16, u9_16v1, u9_19, u9_20, u9_20v1, u9_21, u9_22, u9_23, u9_24, u9_25, u9_26, u9_29, u9_30, u9_30v1, u9_33, u9_34, u9_34v1, u9_37, u9_40, u9_43, u9_46, u9_49, u9_50, hm, nI_le8, hkm, if_false, inB8 hs, nI_cl8, true_and, h1, false_and, nI_add, Nat.reduceAdd]
    ) (nI 0) trivial
  refine Eq.trans ?_ (e.trans ?_)
  · simp only [u9_0, u9_1, u9_2, u9_3, u9_5, u9_6, u9_6v1, u9_9, u9_9v1, u9_12, u9_15, u9_16, u9_16v1, u9_19, u9_20, u9_20v1, u9_21, u9_22, u9_23, u9_24, u9_25, u9_26, u9_29, u9_30, u9_30v1, u9_33, u9_34, u9_34v1, u9_37, u9_40, u9_43, u9_46, u9_49, u9_50]
  · refine u9_4.trans ?_
    rcases hd with ⟨rfl, rfl⟩ | ⟨rfl, rfl⟩
    all_goals
      simp (disch := omega) only [u9_0, u9_1, u9_2, u9_3, u9_5, u9_6, u9_6v1, u9_9, u9_9v1, u9_12, u9_15, u9_16, u9_16v1, u9_19, u9_20, u9_20v1, u9_21, u9_22, u9_23, u9_24, u9_25, u9_26, u9_29, u9_30, u9_30v1, u9_33, u9_34, u9_34v1, u9_37, u9_40, u9_43, u9_46, u9_49, u9_50, hm, nI_le8, Nat.le_refl, if_true]
      rfl
def sailedM (d : Nat) (m : AMem) : Int32 := it 6 (fun k (c : Int32) => c + popM (m (d + 9) k)) (nI 0)
theorem s_sailed (hd : dd d t) : T S (f + 2) 10 0 [some (.ref d), none, none] [] m Rt = Rt (some (.int (sailedM d m))) m := by
  have e := it_run (fun k (c : Int32) => T S (f + 2) 10 4 [some (.ref d), some (.int c), some (.int (nI k))] [] m Rt) (fun k (c : Int32) => c + popM (m (d + 9) k)) (fun _ _ => True) 6 (fun _ _ _ _ => trivial) (fun k hk c _ => by
    have hkm : ¬ 6 ≤ k := by omega
    refine u10_4.trans ?_
    rcases hd with ⟨rfl, rfl⟩ | ⟨rfl, rfl⟩
    all_goals
      simp (disch := omega) only [u10_0, u10_1, u10_2, u10_3, u10_5, u10_7, u10_10, u10_11, u10_12, u10_12v1, u10_15, u10_16, u10_16v1, u10_17, u10_20, u10_21, u10_22, u10_25, u10_28, u10_29, nI_le8, hkm, if_false, inB8 hk, nI_cl8, true_and, s_pop, pu_some, pu_none, nI_add, Nat.reduceAdd]) (nI 0) trivial
  refine Eq.trans ?_ (e.trans ?_)
  · simp only [u10_0, u10_1, u10_2, u10_3, u10_5, u10_7, u10_10, u10_11, u10_12, u10_12v1, u10_15, u10_16, u10_16v1, u10_17, u10_20, u10_21, u10_22, u10_25, u10_28, u10_29]
  · refine u10_4.trans ?_
    simp (disch := omega) only [u10_0, u10_1, u10_2, u10_3, u10_5, u10_7, u10_10, u10_11, u10_12, u10_12v1, u10_15, u10_16, u10_16v1, u10_17, u10_20, u10_21, u10_22, u10_25, u10_28, u10_29, nI_le8, Nat.le_refl, if_true]
    rfl
/-- sheets -/
def renewM (s : Nat) (fo n : Int32) (m : AMem) : AMem := it 60 (fun k m => up m (69 + s) k (nI 0)) (up (up m (65 + s) 1 fo) (65 + s) 2 n)
def narF (fo v : Int32) : Int32 := if fo = nI 0 then v.toInt8.toInt32 else if fo = nI 1 then v.toInt16.toInt32 else v
def setM (s : Nat) (i v : Int32) (m : AMem) : AMem := if (nI 0 ≤ i ∧ i < nI 60) ∧ i < m (65 + s) 2 then up m (69 + s) i.toNatClampNeg (narF (m (65 + s) 1) v) else m
theorem s_renew0 {fo n : Int32} : T S (f + 1) 11 0 [some (.ref 65), some (.int fo), some (.int n), none] [] m Rt = Rt none (renewM 0 fo n m) := by
  have e := fun m => it_run (fun k (m : AMem) => T S (f + 1) 11 12 [some (.ref 65), some (.int fo), some (.int n), some (.int (nI k))] [] m Rt) (fun k m => up m 69 k (nI 0)) (fun _ _ => True) 60 (fun _ _ _ _ => trivial) (fun k hk m _ => by
    have hkm : ¬ 60 ≤ k := by omega
    refine u11_12.trans ?_
    simp (disch := omega) only [u11_0, u11_1, u11_2, u11_2v1, u11_2v2, u11_2v3, u11_5, u11_6, u11_7, u11_7v1, u11_7v2, u11_7v3, u11_10, u11_11, u11_13, u11_15, u11_18, u11_19, u11_19v1, u11_19v2, u11_19v3, u11_22, u11_23, u11_24, u11_24v1, u11_24v2, u11_24v3, u11_25, u11_28, u11_31, nI_le8, hkm, if_false, inB8 hk, nI_cl8, true_and, nI_add]) m trivial
  refine Eq.trans ?_ ((e (up (up m 65 1 fo) 65 2 n)).trans ?_)
  · simp only [u11_0, u11_1, u11_2, u11_2v1, u11_2v2, u11_2v3, u11_5, u11_6, u11_7, u11_7v1, u11_7v2, u11_7v3, u11_10, u11_11, u11_13, u11_15, u11_18, u11_19, u11_19v1, u11_19v2, u11_19v3, u11_22, u11_23, u11_24, u11_24v1, u11_24v2, u11_24v3, u11_25, u11_28, u11_31]
  · refine u11_12.trans ?_
    simp (disch := omega) only [u11_0, u11_1, u11_2, u11_2v1, u11_2v2, u11_2v3, u11_5, u11_6, u11_7, u11_7v1, u11_7v2, u11_7v3, u11_10, u11_11, u11_13, u11_15, u11_18, u11_19, u11_19v1, u11_19v2, u11_19v3, u11_22, u11_23, u11_24, u11_24v1, u11_24v2, u11_24v3, u11_25, u11_28, u11_31, nI_le8, Nat.le_refl, if_true]
    rfl
theorem s_set0 {i v : Int32} : T S (f + 1) 12 0 [some (.ref 65), some (.int i), some (.int v)] [] m Rt = Rt none (setM 0 i v m) := by
  unfold setM
  by_cases h1 : i < nI 0
  · have hn : ¬ nI 0 ≤ i := Int32.not_le.mpr h1
    simp only [u12_0, u12_1, u12_4, u12_5, u12_6, u12_6v1, u12_6v2, u12_6v3, u12_9, u12_12, u12_13, u12_15, u12_18, u12_19, u12_19v1, u12_19v2, u12_19v3, u12_22, u12_23, u12_24, u12_24v1, u12_24v2, u12_24v3, u12_27, u12_30, u12_31, u12_32, u12_35, u12_36, u12_36v1, u12_36v2, u12_36v3, u12_39, u12_40, u12_43, u12_44, u12_45, u12_48, u12_49, u12_49v1, u12_49v2, u12_49v3, u12_50, h1, if_true]
    simp [hn]
  · by_cases h2 : m 65 2 ≤ i
    · have hn : ¬ i < m 65 2 := Int32.not_lt.mpr h2
      simp only [u12_0, u12_1, u12_4, u12_5, u12_6, u12_6v1, u12_6v2, u12_6v3, u12_9, u12_12, u12_13, u12_15, u12_18, u12_19, u12_19v1, u12_19v2, u12_19v3, u12_22, u12_23, u12_24, u12_24v1, u12_24v2, u12_24v3, u12_27, u12_30, u12_31, u12_32, u12_35, u12_36, u12_36v1, u12_36v2, u12_36v3, u12_39, u12_40, u12_43, u12_44, u12_45, u12_48, u12_49, u12_49v1, u12_49v2, u12_49v3, u12_50, h1, h2, if_true, if_false]
      simp [hn]
    · by_cases h3 : nI 60 ≤ i
      · have hn : ¬ i < nI 60 := Int32.not_lt.mpr h3
        simp only [u12_0, u12_1, u12_4, u12_5, u12_6, u12_6v1, u12_6v2, u12_6v3, u12_9, u12_12, u12_13, u12_15, u12_18, u12_19, u12_19v1, u12_19v2, u12_19v3, u12_22, u12_23, u12_24, u12_24v1, u12_24v2, u12_24v3, u12_27, u12_30, u12_31, u12_32, u12_35, u12_36, u12_36v1, u12_36v2, u12_36v3, u12_39, u12_40, u12_43, u12_44, u12_45, u12_48, u12_49, u12_49v1, u12_49v2, u12_49v3, u12_50, h1, h2, h3, if_true, if_false]
        simp [hn]
      · have hP : (nI 0 ≤ i ∧ i < nI 60) ∧ i < m 65 2 := ⟨⟨Int32.not_lt.mp h1, Int32.not_le.mp h3⟩, Int32.not_le.mp h2⟩
        have hB := inB_P hP.1 (by decide)
        rw [if_pos hP]
        unfold narF
        by_cases q0 : m 65 1 = nI 0
        · simp only [u12_0, u12_1, u12_4, u12_5, u12_6, u12_6v1, u12_6v2, u12_6v3, u12_9, u12_12, u12_13, u12_15, u12_18, u12_19, u12_19v1, u12_19v2, u12_19v3, u12_22, u12_23, u12_24, u12_24v1, u12_24v2, u12_24v3, u12_27, u12_30, u12_31, u12_32, u12_35, u12_36, u12_36v1, u12_36v2, u12_36v3, u12_39, u12_40, u12_43, u12_44, u12_45, u12_48, u12_49, u12_49v1, u12_49v2, u12_49v3, u12_50, h1, h2, h3, if_false, hB, true_and, q0, if_true]
        · by_cases q1 : m 65 1 = nI 1
          · simp only [u12_0, u12_1, u12_4, u12_5, u12_6, u12_6v1, u12_6v2, u12_6v3, u12_9, u12_12, u12_13, u12_15, u12_18, u12_19, u12_19v1, u12_19v2, u12_19v3, u12_22, u12_23, u12_24, u12_24v1, u12_24v2, u12_24v3, u12_27, u12_30, u12_31, u12_32, u12_35, u12_36, u12_36v1, u12_36v2, u12_36v3, u12_39, u12_40, u12_43, u12_44, u12_45, u12_48, u12_49, u12_49v1, u12_49v2, u12_49v3, u12_50, h1, h2, h3, if_false, hB, true_and, q0, q1, if_true, show ¬ nI 1 = nI 0 by decide]
          · simp only [u12_0, u12_1, u12_4, u12_5, u12_6, u12_6v1, u12_6v2, u12_6v3, u12_9, u12_12, u12_13, u12_15, u12_18, u12_19, u12_19v1, u12_19v2, u12_19v3, u12_22, u12_23, u12_24, u12_24v1, u12_24v2, u12_24v3, u12_27, u12_30, u12_31, u12_32, u12_35, u12_36, u12_36v1, u12_36v2, u12_36v3, u12_39, u12_40, u12_43, u12_44, u12_45, u12_48, u12_49, u12_49v1, u12_49v2, u12_49v3, u12_50, h1, h2, h3, if_false, hB, true_and, q0, q1]
theorem s_holds0 {i n : Int32} : T S (f + 1) 13 0 [some (.ref 65), some (.int i), some (.int n)] [] m Rt = Rt (some (.int (b01 (¬ i < nI 0 ∧ ¬ n < nI 0 ∧ ¬ m 65 2 - n < i)))) m := by
  simp only [u13_0, u13_1, u13_4, u13_5, u13_8, u13_9, u13_10, u13_10v1, u13_10v2, u13_10v3, u13_13, u13_14, u13_15, u13_18, u13_19, u13_22, u13_23, nar_z0, nar_z1, true_and]
  by_cases h1 : i < nI 0 <;> by_cases h2 : n < nI 0 <;> by_cases h3 : m 65 2 - n < i <;> simp [h1, h2, h3, b01]
theorem s_renew1 {fo n : Int32} : T S (f + 1) 11 0 [some (.ref 66), some (.int fo), some (.int n), none] [] m Rt = Rt none (renewM 1 fo n m) := by
  have e := fun m => it_run (fun k (m : AMem) => T S (f + 1) 11 12 [some (.ref 66), some (.int fo), some (.int n), some (.int (nI k))] [] m Rt) (fun k m => up m 70 k (nI 0)) (fun _ _ => True) 60 (fun _ _ _ _ => trivial) (fun k hk m _ => by
    have hkm : ¬ 60 ≤ k := by omega
    refine u11_12.trans ?_
    simp (disch := omega) only [u11_0, u11_1, u11_2, u11_2v1, u11_2v2, u11_2v3, u11_5, u11_6, u11_7, u11_7v1, u11_7v2, u11_7v3, u11_10, u11_11, u11_13, u11_15, u11_18, u11_19, u11_19v1, u11_19v2, u11_19v3, u11_22, u11_23, u11_24, u11_24v1, u11_24v2, u11_24v3, u11_25, u11_28, u11_31, nI_le8, hkm, if_false, inB8 hk, nI_cl8, true_and, nI_add]) m trivial
  refine Eq.trans ?_ ((e (up (up m 66 1 fo) 66 2 n)).trans ?_)
  · simp only [u11_0, u11_1, u11_2, u11_2v1, u11_2v2, u11_2v3, u11_5, u11_6, u11_7, u11_7v1, u11_7v2, u11_7v3, u11_10, u11_11, u11_13, u11_15, u11_18, u11_19, u11_19v1, u11_19v2, u11_19v3, u11_22, u11_23, u11_24, u11_24v1, u11_24v2, u11_24v3, u11_25, u11_28, u11_31]
  · refine u11_12.trans ?_
    simp (disch := omega) only [u11_0, u11_1, u11_2, u11_2v1, u11_2v2, u11_2v3, u11_5, u11_6, u11_7, u11_7v1, u11_7v2, u11_7v3, u11_10, u11_11, u11_13, u11_15, u11_18, u11_19, u11_19v1, u11_19v2, u11_19v3, u11_22, u11_23, u11_24, u11_24v1, u11_24v2, u11_24v3, u11_25, u11_28, u11_31, nI_le8, Nat.le_refl, if_true]
    rfl
theorem s_set1 {i v : Int32} : T S (f + 1) 12 0 [some (.ref 66), some (.int i), some (.int v)] [] m Rt = Rt none (setM 1 i v m) := by
  unfold setM
  by_cases h1 : i < nI 0
  · have hn : ¬ nI 0 ≤ i := Int32.not_le.mpr h1
    simp only [u12_0, u12_1, u12_4, u12_5, u12_6, u12_6v1, u12_6v2, u12_6v3, u12_9, u12_12, u12_13, u12_15, u12_18, u12_19, u12_19v1, u12_19v2, u12_19v3, u12_22, u12_23, u12_24, u12_24v1, u12_24v2, u12_24v3, u12_27, u12_30, u12_31, u12_32, u12_35, u12_36, u12_36v1, u12_36v2, u12_36v3, u12_39, u12_40, u12_43, u12_44, u12_45, u12_48, u12_49, u12_49v1, u12_49v2, u12_49v3, u12_50, h1, if_true]
    simp [hn]
  · by_cases h2 : m 66 2 ≤ i
    · have hn : ¬ i < m 66 2 := Int32.not_lt.mpr h2
      simp only [u12_0, u12_1, u12_4, u12_5, u12_6, u12_6v1, u12_6v2, u12_6v3, u12_9, u12_12, u12_13, u12_15, u12_18, u12_19, u12_19v1, u12_19v2, u12_19v3, u12_22, u12_23, u12_24, u12_24v1, u12_24v2, u12_24v3, u12_27, u12_30, u12_31, u12_32, u12_35, u12_36, u12_36v1, u12_36v2, u12_36v3, u12_39, u12_40, u12_43, u12_44, u12_45, u12_48, u12_49, u12_49v1, u12_49v2, u12_49v3, u12_50, h1, h2, if_true, if_false]
      simp [hn]
    · by_cases h3 : nI 60 ≤ i
      · have hn : ¬ i < nI 60 := Int32.not_lt.mpr h3
        simp only [u12_0, u12_1, u12_4, u12_5, u12_6, u12_6v1, u12_6v2, u12_6v3, u12_9, u12_12, u12_13, u12_15, u12_18, u12_19, u12_19v1, u12_19v2, u12_19v3, u12_22, u12_23, u12_24, u12_24v1, u12_24v2, u12_24v3, u12_27, u12_30, u12_31, u12_32, u12_35, u12_36, u12_36v1, u12_36v2, u12_36v3, u12_39, u12_40, u12_43, u12_44, u12_45, u12_48, u12_49, u12_49v1, u12_49v2, u12_49v3, u12_50, h1, h2, h3, if_true, if_false]
        simp [hn]
      · have hP : (nI 0 ≤ i ∧ i < nI 60) ∧ i < m 66 2 := ⟨⟨Int32.not_lt.mp h1, Int32.not_le.mp h3⟩, Int32.not_le.mp h2⟩
        have hB := inB_P hP.1 (by decide)
        rw [if_pos hP]
        unfold narF
        by_cases q0 : m 66 1 = nI 0
        · simp only [u12_0, u12_1, u12_4, u12_5, u12_6, u12_6v1, u12_6v2, u12_6v3, u12_9, u12_12, u12_13, u12_15, u12_18, u12_19, u12_19v1, u12_19v2, u12_19v3, u12_22, u12_23, u12_24, u12_24v1, u12_24v2, u12_24v3, u12_27, u12_30, u12_31, u12_32, u12_35, u12_36, u12_36v1, u12_36v2, u12_36v3, u12_39, u12_40, u12_43, u12_44, u12_45, u12_48, u12_49, u12_49v1, u12_49v2, u12_49v3, u12_50, h1, h2, h3, if_false, hB, true_and, q0, if_true]
        · by_cases q1 : m 66 1 = nI 1
          · simp only [u12_0, u12_1, u12_4, u12_5, u12_6, u12_6v1, u12_6v2, u12_6v3, u12_9, u12_12, u12_13, u12_15, u12_18, u12_19, u12_19v1, u12_19v2, u12_19v3, u12_22, u12_23, u12_24, u12_24v1, u12_24v2, u12_24v3, u12_27, u12_30, u12_31, u12_32, u12_35, u12_36, u12_36v1, u12_36v2, u12_36v3, u12_39, u12_40, u12_43, u12_44, u12_45, u12_48, u12_49, u12_49v1, u12_49v2, u12_49v3, u12_50, h1, h2, h3, if_false, hB, true_and, q0, q1, if_true, show ¬ nI 1 = nI 0 by decide]
          · simp only [u12_0, u12_1, u12_4, u12_5, u12_6, u12_6v1, u12_6v2, u12_6v3, u12_9, u12_12, u12_13, u12_15, u12_18, u12_19, u12_19v1, u12_19v2, u12_19v3, u12_22, u12_23, u12_24, u12_24v1, u12_24v2, u12_24v3, u12_27, u12_30, u12_31, u12_32, u12_35, u12_36, u12_36v1, u12_36v2, u12_36v3, u12_39, u12_40, u12_43, u12_44, u12_45, u12_48, u12_49, u12_49v1, u12_49v2, u12_49v3, u12_50, h1, h2, h3, if_false, hB, true_and, q0, q1]
theorem s_holds1 {i n : Int32} : T S (f + 1) 13 0 [some (.ref 66), some (.int i), some (.int n)] [] m Rt = Rt (some (.int (b01 (¬ i < nI 0 ∧ ¬ n < nI 0 ∧ ¬ m 66 2 - n < i)))) m := by
  simp only [u13_0, u13_1, u13_4, u13_5, u13_8, u13_9, u13_10, u13_10v1, u13_10v2, u13_10v3, u13_13, u13_14, u13_15, u13_18, u13_19, u13_22, u13_23, nar_z0, nar_z1, true_and]
  by_cases h1 : i < nI 0 <;> by_cases h2 : n < nI 0 <;> by_cases h3 : m 66 2 - n < i <;> simp [h1, h2, h3, b01]
theorem s_renew2 {fo n : Int32} : T S (f + 1) 11 0 [some (.ref 67), some (.int fo), some (.int n), none] [] m Rt = Rt none (renewM 2 fo n m) := by
  have e := fun m => it_run (fun k (m : AMem) => T S (f + 1) 11 12 [some (.ref 67), some (.int fo), some (.int n), some (.int (nI k))] [] m Rt) (fun k m => up m 71 k (nI 0)) (fun _ _ => True) 60 (fun _ _ _ _ => trivial) (fun k hk m _ => by
    have hkm : ¬ 60 ≤ k := by omega
    refine u11_12.trans ?_
    simp (disch := omega) only [u11_0, u11_1, u11_2, u11_2v1, u11_2v2, u11_2v3, u11_5, u11_6, u11_7, u11_7v1, u11_7v2, u11_7v3, u11_10, u11_11, u11_13, u11_15, u11_18, u11_19, u11_19v1, u11_19v2, u11_19v3, u11_22, u11_23, u11_24, u11_24v1, u11_24v2, u11_24v3, u11_25, u11_28, u11_31, nI_le8, hkm, if_false, inB8 hk, nI_cl8, true_and, nI_add]) m trivial
  refine Eq.trans ?_ ((e (up (up m 67 1 fo) 67 2 n)).trans ?_)
  · simp only [u11_0, u11_1, u11_2, u11_2v1, u11_2v2, u11_2v3, u11_5, u11_6, u11_7, u11_7v1, u11_7v2, u11_7v3, u11_10, u11_11, u11_13, u11_15, u11_18, u11_19, u11_19v1, u11_19v2, u11_19v3, u11_22, u11_23, u11_24, u11_24v1, u11_24v2, u11_24v3, u11_25, u11_28, u11_31]
  · refine u11_12.trans ?_
    simp (disch := omega) only [u11_0, u11_1, u11_2, u11_2v1, u11_2v2, u11_2v3, u11_5, u11_6, u11_7, u11_7v1, u11_7v2, u11_7v3, u11_10, u11_11, u11_13, u11_15, u11_18, u11_19, u11_19v1, u11_19v2, u11_19v3, u11_22, u11_23, u11_24, u11_24v1, u11_24v2, u11_24v3, u11_25, u11_28, u11_31, nI_le8, Nat.le_refl, if_true]
    rfl
theorem s_set2 {i v : Int32} : T S (f + 1) 12 0 [some (.ref 67), some (.int i), some (.int v)] [] m Rt = Rt none (setM 2 i v m) := by
  unfold setM
  by_cases h1 : i < nI 0
  · have hn : ¬ nI 0 ≤ i := Int32.not_le.mpr h1
    simp only [u12_0, u12_1, u12_4, u12_5, u12_6, u12_6v1, u12_6v2, u12_6v3, u12_9, u12_12, u12_13, u12_15, u12_18, u12_19, u12_19v1, u12_19v2, u12_19v3, u12_22, u12_23, u12_24, u12_24v1, u12_24v2, u12_24v3, u12_27, u12_30, u12_31, u12_32, u12_35, u12_36, u12_36v1, u12_36v2, u12_36v3, u12_39, u12_40, u12_43, u12_44, u12_45, u12_48, u12_49, u12_49v1, u12_49v2, u12_49v3, u12_50, h1, if_true]
    simp [hn]
  · by_cases h2 : m 67 2 ≤ i
    · have hn : ¬ i < m 67 2 := Int32.not_lt.mpr h2
      simp only [u12_0, u12_1, u12_4, u12_5, u12_6, u12_6v1, u12_6v2, u12_6v3, u12_9, u12_12, u12_13, u12_15, u12_18, u12_19, u12_19v1, u12_19v2, u12_19v3, u12_22, u12_23, u12_24, u12_24v1, u12_24v2, u12_24v3, u12_27, u12_30, u12_31, u12_32, u12_35, u12_36, u12_36v1, u12_36v2, u12_36v3, u12_39, u12_40, u12_43, u12_44, u12_45, u12_48, u12_49, u12_49v1, u12_49v2, u12_49v3, u12_50, h1, h2, if_true, if_false]
      simp [hn]
    · by_cases h3 : nI 60 ≤ i
      · have hn : ¬ i < nI 60 := Int32.not_lt.mpr h3
        simp only [u12_0, u12_1, u12_4, u12_5, u12_6, u12_6v1, u12_6v2, u12_6v3, u12_9, u12_12, u12_13, u12_15, u12_18, u12_19, u12_19v1, u12_19v2, u12_19v3, u12_22, u12_23, u12_24, u12_24v1, u12_24v2, u12_24v3, u12_27, u12_30, u12_31, u12_32, u12_35, u12_36, u12_36v1, u12_36v2, u12_36v3, u12_39, u12_40, u12_43, u12_44, u12_45, u12_48, u12_49, u12_49v1, u12_49v2, u12_49v3, u12_50, h1, h2, h3, if_true, if_false]
        simp [hn]
      · have hP : (nI 0 ≤ i ∧ i < nI 60) ∧ i < m 67 2 := ⟨⟨Int32.not_lt.mp h1, Int32.not_le.mp h3⟩, Int32.not_le.mp h2⟩
        have hB := inB_P hP.1 (by decide)
        rw [if_pos hP]
        unfold narF
        by_cases q0 : m 67 1 = nI 0
        · simp only [u12_0, u12_1, u12_4, u12_5, u12_6, u12_6v1, u12_6v2, u12_6v3, u12_9, u12_12, u12_13, u12_15, u12_18, u12_19, u12_19v1, u12_19v2, u12_19v3, u12_22, u12_23, u12_24, u12_24v1, u12_24v2, u12_24v3, u12_27, u12_30, u12_31, u12_32, u12_35, u12_36, u12_36v1, u12_36v2, u12_36v3, u12_39, u12_40, u12_43, u12_44, u12_45, u12_48, u12_49, u12_49v1, u12_49v2, u12_49v3, u12_50, h1, h2, h3, if_false, hB, true_and, q0, if_true]
        · by_cases q1 : m 67 1 = nI 1
          · simp only [u12_0, u12_1, u12_4, u12_5, u12_6, u12_6v1, u12_6v2, u12_6v3, u12_9, u12_12, u12_13, u12_15, u12_18, u12_19, u12_19v1, u12_19v2, u12_19v3, u12_22, u12_23, u12_24, u12_24v1, u12_24v2, u12_24v3, u12_27, u12_30, u12_31, u12_32, u12_35, u12_36, u12_36v1, u12_36v2, u12_36v3, u12_39, u12_40, u12_43, u12_44, u12_45, u12_48, u12_49, u12_49v1, u12_49v2, u12_49v3, u12_50, h1, h2, h3, if_false, hB, true_and, q0, q1, if_true, show ¬ nI 1 = nI 0 by decide]
          · simp only [u12_0, u12_1, u12_4, u12_5, u12_6, u12_6v1, u12_6v2, u12_6v3, u12_9, u12_12, u12_13, u12_15, u12_18, u12_19, u12_19v1, u12_19v2, u12_19v3, u12_22, u12_23, u12_24, u12_24v1, u12_24v2, u12_24v3, u12_27, u12_30, u12_31, u12_32, u12_35, u12_36, u12_36v1, u12_36v2, u12_36v3, u12_39, u12_40, u12_43, u12_44, u12_45, u12_48, u12_49, u12_49v1, u12_49v2, u12_49v3, u12_50, h1, h2, h3, if_false, hB, true_and, q0, q1]
theorem s_holds2 {i n : Int32} : T S (f + 1) 13 0 [some (.ref 67), some (.int i), some (.int n)] [] m Rt = Rt (some (.int (b01 (¬ i < nI 0 ∧ ¬ n < nI 0 ∧ ¬ m 67 2 - n < i)))) m := by
  simp only [u13_0, u13_1, u13_4, u13_5, u13_8, u13_9, u13_10, u13_10v1, u13_10v2, u13_10v3, u13_13, u13_14, u13_15, u13_18, u13_19, u13_22, u13_23, nar_z0, nar_z1, true_and]
  by_cases h1 : i < nI 0 <;> by_cases h2 : n < nI 0 <;> by_cases h3 : m 67 2 - n < i <;> simp [h1, h2, h3, b01]
theorem s_renew3 {fo n : Int32} : T S (f + 1) 11 0 [some (.ref 68), some (.int fo), some (.int n), none] [] m Rt = Rt none (renewM 3 fo n m) := by
  have e := fun m => it_run (fun k (m : AMem) => T S (f + 1) 11 12 [some (.ref 68), some (.int fo), some (.int n), some (.int (nI k))] [] m Rt) (fun k m => up m 72 k (nI 0)) (fun _ _ => True) 60 (fun _ _ _ _ => trivial) (fun k hk m _ => by
    have hkm : ¬ 60 ≤ k := by omega
    refine u11_12.trans ?_
    simp (disch := omega) only [u11_0, u11_1, u11_2, u11_2v1, u11_2v2, u11_2v3, u11_5, u11_6, u11_7, u11_7v1, u11_7v2, u11_7v3, u11_10, u11_11, u11_13, u11_15, u11_18, u11_19, u11_19v1, u11_19v2, u11_19v3, u11_22, u11_23, u11_24, u11_24v1, u11_24v2, u11_24v3, u11_25, u11_28, u11_31, nI_le8, hkm, if_false, inB8 hk, nI_cl8, true_and, nI_add]) m trivial
  refine Eq.trans ?_ ((e (up (up m 68 1 fo) 68 2 n)).trans ?_)
  · simp only [u11_0, u11_1, u11_2, u11_2v1, u11_2v2, u11_2v3, u11_5, u11_6, u11_7, u11_7v1, u11_7v2, u11_7v3, u11_10, u11_11, u11_13, u11_15, u11_18, u11_19, u11_19v1, u11_19v2, u11_19v3, u11_22, u11_23, u11_24, u11_24v1, u11_24v2, u11_24v3, u11_25, u11_28, u11_31]
  · refine u11_12.trans ?_
    simp (disch := omega) only [u11_0, u11_1, u11_2, u11_2v1, u11_2v2, u11_2v3, u11_5, u11_6, u11_7, u11_7v1, u11_7v2, u11_7v3, u11_10, u11_11, u11_13, u11_15, u11_18, u11_19, u11_19v1, u11_19v2, u11_19v3, u11_22, u11_23, u11_24, u11_24v1, u11_24v2, u11_24v3, u11_25, u11_28, u11_31, nI_le8, Nat.le_refl, if_true]
    rfl
theorem s_set3 {i v : Int32} : T S (f + 1) 12 0 [some (.ref 68), some (.int i), some (.int v)] [] m Rt = Rt none (setM 3 i v m) := by
  unfold setM
  by_cases h1 : i < nI 0
  · have hn : ¬ nI 0 ≤ i := Int32.not_le.mpr h1
    simp only [u12_0, u12_1, u12_4, u12_5, u12_6, u12_6v1, u12_6v2, u12_6v3, u12_9, u12_12, u12_13, u12_15, u12_18, u12_19, u12_19v1, u12_19v2, u12_19v3, u12_22, u12_23, u12_24, u12_24v1, u12_24v2, u12_24v3, u12_27, u12_30, u12_31, u12_32, u12_35, u12_36, u12_36v1, u12_36v2, u12_36v3, u12_39, u12_40, u12_43, u12_44, u12_45, u12_48, u12_49, u12_49v1, u12_49v2, u12_49v3, u12_50, h1, if_true]
    simp [hn]
  · by_cases h2 : m 68 2 ≤ i
    · have hn : ¬ i < m 68 2 := Int32.not_lt.mpr h2
      simp only [u12_0, u12_1, u12_4, u12_5, u12_6, u12_6v1, u12_6v2, u12_6v3, u12_9, u12_12, u12_13, u12_15, u12_18, u12_19, u12_19v1, u12_19v2, u12_19v3, u12_22, u12_23, u12_24, u12_24v1, u12_24v2, u12_24v3, u12_27, u12_30, u12_31, u12_32, u12_35, u12_36, u12_36v1, u12_36v2, u12_36v3, u12_39, u12_40, u12_43, u12_44, u12_45, u12_48, u12_49, u12_49v1, u12_49v2, u12_49v3, u12_50, h1, h2, if_true, if_false]
      simp [hn]
    · by_cases h3 : nI 60 ≤ i
      · have hn : ¬ i < nI 60 := Int32.not_lt.mpr h3
        simp only [u12_0, u12_1, u12_4, u12_5, u12_6, u12_6v1, u12_6v2, u12_6v3, u12_9, u12_12, u12_13, u12_15, u12_18, u12_19, u12_19v1, u12_19v2, u12_19v3, u12_22, u12_23, u12_24, u12_24v1, u12_24v2, u12_24v3, u12_27, u12_30, u12_31, u12_32, u12_35, u12_36, u12_36v1, u12_36v2, u12_36v3, u12_39, u12_40, u12_43, u12_44, u12_45, u12_48, u12_49, u12_49v1, u12_49v2, u12_49v3, u12_50, h1, h2, h3, if_true, if_false]
        simp [hn]
      · have hP : (nI 0 ≤ i ∧ i < nI 60) ∧ i < m 68 2 := ⟨⟨Int32.not_lt.mp h1, Int32.not_le.mp h3⟩, Int32.not_le.mp h2⟩
        have hB := inB_P hP.1 (by decide)
        rw [if_pos hP]
        unfold narF
        by_cases q0 : m 68 1 = nI 0
        · simp only [u12_0, u12_1, u12_4, u12_5, u12_6, u12_6v1, u12_6v2, u12_6v3, u12_9, u12_12, u12_13, u12_15, u12_18, u12_19, u12_19v1, u12_19v2, u12_19v3, u12_22, u12_23, u12_24, u12_24v1, u12_24v2, u12_24v3, u12_27, u12_30, u12_31, u12_32, u12_35, u12_36, u12_36v1, u12_36v2, u12_36v3, u12_39, u12_40, u12_43, u12_44, u12_45, u12_48, u12_49, u12_49v1, u12_49v2, u12_49v3, u12_50, h1, h2, h3, if_false, hB, true_and, q0, if_true]
        · by_cases q1 : m 68 1 = nI 1
          · simp only [u12_0, u12_1, u12_4, u12_5, u12_6, u12_6v1, u12_6v2, u12_6v3, u12_9, u12_12, u12_13, u12_15, u12_18, u12_19, u12_19v1, u12_19v2, u12_19v3, u12_22, u12_23, u12_24, u12_24v1, u12_24v2, u12_24v3, u12_27, u12_30, u12_31, u12_32, u12_35, u12_36, u12_36v1, u12_36v2, u12_36v3, u12_39, u12_40, u12_43, u12_44, u12_45, u12_48, u12_49, u12_49v1, u12_49v2, u12_49v3, u12_50, h1, h2, h3, if_false, hB, true_and, q0, q1, if_true, show ¬ nI 1 = nI 0 by decide]
          · simp only [u12_0, u12_1, u12_4, u12_5, u12_6, u12_6v1, u12_6v2, u12_6v3, u12_9, u12_12, u12_13, u12_15, u12_18, u12_19, u12_19v1, u12_19v2, u12_19v3, u12_22, u12_23, u12_24, u12_24v1, u12_24v2, u12_24v3, u12_27, u12_30, u12_31, u12_32, u12_35, u12_36, u12_36v1, u12_36v2, u12_36v3, u12_39, u12_40, u12_43, u12_44, u12_45, u12_48, u12_49, u12_49v1, u12_49v2, u12_49v3, u12_50, h1, h2, h3, if_false, hB, true_and, q0, q1]
theorem s_holds3 {i n : Int32} : T S (f + 1) 13 0 [some (.ref 68), some (.int i), some (.int n)] [] m Rt = Rt (some (.int (b01 (¬ i < nI 0 ∧ ¬ n < nI 0 ∧ ¬ m 68 2 - n < i)))) m := by
  simp only [u13_0, u13_1, u13_4, u13_5, u13_8, u13_9, u13_10, u13_10v1, u13_10v2, u13_10v3, u13_13, u13_14, u13_15, u13_18, u13_19, u13_22, u13_23, nar_z0, nar_z1, true_and]
  by_cases h1 : i < nI 0 <;> by_cases h2 : n < nI 0 <;> by_cases h3 : m 68 2 - n < i <;> simp [h1, h2, h3, b01]
/-- what was seen: c of them -/
def Sg (c : Nat) (sd sh su : Nat → Nat) (m : AMem) : Prop := m 60 3 = nI c ∧ c ≤ 8 ∧ ∀ i, i < c → m 61 i = nI (sd i) ∧ sd i < 30 ∧ m 62 i = nI (sh i) ∧ sh i < 8 ∧ m 63 i = nI (su i) ∧ su i ≤ 999
def moreP (x y z : Int32) : Prop := (nI 0 ≤ x ∧ x < nI 30) ∧ (¬ y < nI 0 ∧ ¬ nI 8 ≤ y) ∧ (¬ z < nI 0 ∧ z ≤ nI 999)
def putS (c : Nat) (x y z : Int32) (m : AMem) : AMem := up (up (up (up m 61 c x) 62 c y) 63 c z) 60 3 (nI (c + 1))
theorem s_moreB {x y z : Int32} (h : ¬ moreP x y z) : T S (f + 3) 14 0 [some (.ref 60), some (.int x), some (.int y), some (.int z)] [] m Rt = Rt (some (.int (-2))) m := by
  unfold moreP at h
  simp only [u14_0, u14_1, u14_4, u14_7, u14_8, u14_11, u14_12, u14_14, u14_17, u14_18, u14_21, u14_22, u14_25, u14_28, u14_30, s_isDay, pu_some, pu_none, b01_e0]
  by_cases h1 : nI 0 ≤ x ∧ x < nI 30 <;> by_cases h2 : y < nI 0 <;> by_cases h3 : nI 8 ≤ y <;> by_cases h4 : z < nI 0 <;> by_cases h5 : z ≤ nI 999 <;> simp [h1, h2, h3, h4, h5] at h ⊢
theorem s_moreF {x y z : Int32} (h : moreP x y z) (hm : m 60 3 = nI 8) : T S (f + 3) 14 0 [some (.ref 60), some (.int x), some (.int y), some (.int z)] [] m Rt = Rt (some (.int (-4))) m := by
  obtain ⟨h1, ⟨h2, h3⟩, h4, h5⟩ := h
  simp only [u14_0, u14_1, u14_4, u14_7, u14_8, u14_11, u14_12, u14_14, u14_17, u14_18, u14_21, u14_22, u14_25, u14_28, u14_30, u14_31, u14_32, u14_35, u14_38, u14_39, u14_42, u14_44, u14_47, u14_49, u14_50, u14_51, u14_54, u14_55, u14_58, u14_59, u14_60, u14_61, u14_64, u14_65, u14_68, u14_69, u14_70, u14_71, u14_74, u14_75, u14_78, u14_79, u14_80, u14_81, u14_82, u14_85, u14_86, u14_87, u14_90, u14_91, u14_94, s_isDay, pu_some, pu_none, b01_e0, h1, and_self, not_true, if_false, h2, h3, h4, h5, if_true, hm, show ¬ nI 8 < nI 0 by decide, show ¬ nI 8 < nI 8 by decide]
theorem s_moreS {x y z : Int32} {c : Nat} (h : moreP x y z) (hm : m 60 3 = nI c) (hc : c < 8) : T S (f + 3) 14 0 [some (.ref 60), some (.int x), some (.int y), some (.int z)] [] m Rt = Rt (some (.int (nI (c + 1)))) (putS c x y z m) := by
  obtain ⟨h1, ⟨h2, h3⟩, h4, h5⟩ := h
  have c0 : ¬ nI c < nI 0 := fun z => nI_pos (n := c) (by omega) z
  have c8 : nI c < nI 8 := nI_lt hc (by decide)
  simp (disch := omega) only [u14_0, u14_1, u14_4, u14_7, u14_8, u14_11, u14_12, u14_14, u14_17, u14_18, u14_21, u14_22, u14_25, u14_28, u14_30, u14_31, u14_32, u14_35, u14_38, u14_39, u14_42, u14_44, u14_47, u14_49, u14_50, u14_51, u14_54, u14_55, u14_58, u14_59, u14_60, u14_61, u14_64, u14_65, u14_68, u14_69, u14_70, u14_71, u14_74, u14_75, u14_78, u14_79, u14_80, u14_81, u14_82, u14_85, u14_86, u14_87, u14_90, u14_91, u14_94, s_isDay, pu_some, pu_none, b01_e0, h1, and_self, not_true, if_false, h2, h3, h4, h5, if_true, hm, c0, c8, inB8 hc, nI_cl8, true_and, up_ap, upA_ap, Nat.reduceEqDiff, false_and, true_and, and_true, and_false, and_self, if_false, if_true, nI_add]
  rfl
/-- all that was seen comes out so in the other month -/
def outP (inns c : Nat) (sd sh su : Nat → Nat) (m : AMem) : Prop := ∀ i, i < c → sh i < inns ∧ m 57 (sd i * 8 + sh i) = nI (su i)
def outB (inns : Nat) (sd sh su : Nat → Nat) (m : AMem) : Nat → Nat → Bool
  | 0, _ => true
  | r + 1, i => decide (sh i < inns ∧ m 57 (sd i * 8 + sh i) = nI (su i)) && outB inns sd sh su m r (i + 1)
theorem s_out {c inns : Nat} {sd sh su : Nat → Nat} (h : Sg c sd sh su m) (hi : m 19 1 = nI inns) (hn : inns ≤ 8) : T S (f + 1) 15 0 [some (.ref 60), some (.ref 44), none, none] [] m Rt = Rt (some (.int (b01 (outB inns sd sh su m c 0 = true)))) m := by
  obtain ⟨h1, h2, h3⟩ := h
  have key : ∀ (r i : Nat) (l3 : Option Value), i + r = c → T S (f + 1) 15 2 [some (.ref 60), some (.ref 44), some (.int (nI i)), l3] [] m Rt = Rt (some (.int (b01 (outB inns sd sh su m r i = true)))) m := by
    intro r
    induction r with
    | zero =>
      intro i l3 hi2
      have hle : c ≤ i := by omega
      refine u15_2.trans ?_
      simp (disch := omega) only [u15_0, u15_1, u15_3, u15_4, u15_7, u15_10, u15_11, u15_13, u15_16, u15_17, u15_20, u15_21, u15_22, u15_23, u15_26, u15_29, u15_32, u15_33, u15_36, u15_37, u15_38, u15_39, u15_42, u15_43, u15_46, u15_47, u15_50, u15_51, u15_52, u15_54, u15_55, u15_56, u15_59, u15_60, u15_61, u15_62, u15_63, u15_64, u15_67, u15_68, u15_69, u15_72, u15_73, u15_74, u15_77, u15_80, u15_81, h1, nI_le8, hle, if_true, nar_z1, true_and, outB, b01]
    | succ r ih =>
      intro i l3 hi2
      have hlt : ¬ c ≤ i := by omega
      have hl8 : ¬ 8 ≤ i := by omega
      have hi8 : i < 8 := by omega
      obtain ⟨a1, a2, a3, a4, a5, a6⟩ := h3 i (by omega)
      have hB : inB (nI (sd i * 8 + sh i)) 240 = true := inB8 (by omega) (by decide)
      refine u15_2.trans ?_
      by_cases q1 : sh i < inns
      · have q1' : ¬ inns ≤ sh i := by omega
        by_cases q2 : m 57 (sd i * 8 + sh i) = nI (su i)
        · simp (disch := omega) only [u15_0, u15_1, u15_3, u15_4, u15_7, u15_10, u15_11, u15_13, u15_16, u15_17, u15_20, u15_21, u15_22, u15_23, u15_26, u15_29, u15_32, u15_33, u15_36, u15_37, u15_38, u15_39, u15_42, u15_43, u15_46, u15_47, u15_50, u15_51, u15_52, u15_54, u15_55, u15_56, u15_59, u15_60, u15_61, u15_62, u15_63, u15_64, u15_67, u15_68, u15_69, u15_72, u15_73, u15_74, u15_77, u15_80, u15_81, h1, hi, nI_le8, hlt, hl8, if_false, inB8 hi8, nI_cl8, true_and, a1, a3, a5, q1', show ¬ nI 1 = nI 0 by decide, nI_mul8, nI_add, hB, q2, if_true]
          rw [ih (i + 1) _ (by omega)]
          simp [outB, q1, q2]
        · simp (disch := omega) only [u15_0, u15_1, u15_3, u15_4, u15_7, u15_10, u15_11, u15_13, u15_16, u15_17, u15_20, u15_21, u15_22, u15_23, u15_26, u15_29, u15_32, u15_33, u15_36, u15_37, u15_38, u15_39, u15_42, u15_43, u15_46, u15_47, u15_50, u15_51, u15_52, u15_54, u15_55, u15_56, u15_59, u15_60, u15_61, u15_62, u15_63, u15_64, u15_67, u15_68, u15_69, u15_72, u15_73, u15_74, u15_77, u15_80, u15_81, h1, hi, nI_le8, hlt, hl8, if_false, inB8 hi8, nI_cl8, true_and, a1, a3, a5, q1', show ¬ nI 1 = nI 0 by decide, nI_mul8, nI_add, hB, q2, nar_z0]
          simp [outB, q1, q2, b01]
      · have q1' : inns ≤ sh i := by omega
        simp (disch := omega) only [u15_0, u15_1, u15_3, u15_4, u15_7, u15_10, u15_11, u15_13, u15_16, u15_17, u15_20, u15_21, u15_22, u15_23, u15_26, u15_29, u15_32, u15_33, u15_36, u15_37, u15_38, u15_39, u15_42, u15_43, u15_46, u15_47, u15_50, u15_51, u15_52, u15_54, u15_55, u15_56, u15_59, u15_60, u15_61, u15_62, u15_63, u15_64, u15_67, u15_68, u15_69, u15_72, u15_73, u15_74, u15_77, u15_80, u15_81, h1, hi, nI_le8, hlt, hl8, if_false, inB8 hi8, nI_cl8, true_and, a1, a3, a5, q1', if_true, nar_z0]
        simp [outB, q1, b01]
  rw [u15_0, u15_1]
  exact key c 0 none (by omega)
end SMALL
