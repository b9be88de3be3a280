section STRS
variable {S : AScr} {f : Nat} {m : AMem} {Rt : Option Value → AMem → Prop}
theorem z1_0 : ((1 : Int32) = nI 0) = False := by simp; decide
theorem z0_0 : ((0 : Int32) = nI 0) = True := by simp; decide
theorem shr_0 (x : Int32) : x >>> ((0 : Int32) &&& 31) = x := sb_shr0 x
theorem nar_y0 : (narrow .byte (.int (0 : Int32)) = .int (0 : Int32)) = True := by simp; decide
theorem s_isL0 : T S (f + 1) 181 0 [some (.ref 104)] [] m Rt = Rt (some (.int (nI 1))) m := by
  simp only [u181_0, u181_3, u181_6, u181_7, u181_7v1, u181_7v2, u181_7v3, u181_10, u181_13, u181_14, u181_17, u181_18, z1_0, z0_0, if_true, if_false, nar_z1, true_and]
theorem s_cod0 : T S (f + 1) 179 0 [some (.ref 104)] [] m Rt = Rt (some (.int (0 : Int32))) m := by
  simp only [u179_0, u179_3, u179_6, u179_7, u179_7v1, u179_7v2, u179_7v3, u179_10, u179_13, u179_14, z1_0, if_false, nar_y0, true_and]
theorem s_len0 : T S (f + 2) 178 0 [some (.ref 104)] [] m Rt = Rt (some (.int (nI 4))) m := by
  simp only [u178_0, u178_1, u178_1v1, u178_1v2, u178_1v3, u178_4, u178_4v1, u178_4v2, u178_4v3, u178_5, u178_6, u178_6v1, u178_6v2, u178_6v3, u178_9, u178_10, s_cod0, pu_some, pu_none, shr_0]
theorem s_isL1 : T S (f + 1) 181 0 [some (.ref 106)] [] m Rt = Rt (some (.int (nI 1))) m := by
  simp only [u181_0, u181_3, u181_6, u181_7, u181_7v1, u181_7v2, u181_7v3, u181_10, u181_13, u181_14, u181_17, u181_18, z1_0, z0_0, if_true, if_false, nar_z1, true_and]
theorem s_cod1 : T S (f + 1) 179 0 [some (.ref 106)] [] m Rt = Rt (some (.int (0 : Int32))) m := by
  simp only [u179_0, u179_3, u179_6, u179_7, u179_7v1, u179_7v2, u179_7v3, u179_10, u179_13, u179_14, z1_0, if_false, nar_y0, true_and]
theorem s_len1 : T S (f + 2) 178 0 [some (.ref 106)] [] m Rt = Rt (some (.int (nI 2))) m := by
  simp only [u178_0, u178_1, u178_1v1, u178_1v2, u178_1v3, u178_4, u178_4v1, u178_4v2, u178_4v3, u178_5, u178_6, u178_6v1, u178_6v2, u178_6v3, u178_9, u178_10, s_cod1, pu_some, pu_none, shr_0]
theorem s_isL2 : T S (f + 1) 181 0 [some (.ref 108)] [] m Rt = Rt (some (.int (nI 1))) m := by
  simp only [u181_0, u181_3, u181_6, u181_7, u181_7v1, u181_7v2, u181_7v3, u181_10, u181_13, u181_14, u181_17, u181_18, z1_0, z0_0, if_true, if_false, nar_z1, true_and]
theorem s_cod2 : T S (f + 1) 179 0 [some (.ref 108)] [] m Rt = Rt (some (.int (0 : Int32))) m := by
  simp only [u179_0, u179_3, u179_6, u179_7, u179_7v1, u179_7v2, u179_7v3, u179_10, u179_13, u179_14, z1_0, if_false, nar_y0, true_and]
theorem s_len2 : T S (f + 2) 178 0 [some (.ref 108)] [] m Rt = Rt (some (.int (nI 5))) m := by
  simp only [u178_0, u178_1, u178_1v1, u178_1v2, u178_1v3, u178_4, u178_4v1, u178_4v2, u178_4v3, u178_5, u178_6, u178_6v1, u178_6v2, u178_6v3, u178_9, u178_10, s_cod2, pu_some, pu_none, shr_0]
theorem s_isL3 : T S (f + 1) 181 0 [some (.ref 110)] [] m Rt = Rt (some (.int (nI 1))) m := by
  simp only [u181_0, u181_3, u181_6, u181_7, u181_7v1, u181_7v2, u181_7v3, u181_10, u181_13, u181_14, u181_17, u181_18, z1_0, z0_0, if_true, if_false, nar_z1, true_and]
theorem s_cod3 : T S (f + 1) 179 0 [some (.ref 110)] [] m Rt = Rt (some (.int (0 : Int32))) m := by
  simp only [u179_0, u179_3, u179_6, u179_7, u179_7v1, u179_7v2, u179_7v3, u179_10, u179_13, u179_14, z1_0, if_false, nar_y0, true_and]
theorem s_len3 : T S (f + 2) 178 0 [some (.ref 110)] [] m Rt = Rt (some (.int (nI 4))) m := by
  simp only [u178_0, u178_1, u178_1v1, u178_1v2, u178_1v3, u178_4, u178_4v1, u178_4v2, u178_4v3, u178_5, u178_6, u178_6v1, u178_6v2, u178_6v3, u178_9, u178_10, s_cod3, pu_some, pu_none, shr_0]
theorem s_chk {i n : Nat} (h : i < n) (hn : n < 2147483648) : T S (f + 2) 182 0 [some (.int (nI i)), some (.int (nI n))] [] m Rt = Rt none m := by
  have h0 : ¬ nI i < nI 0 := fun z => nI_pos (n := i) (by omega) z
  simp (disch := omega) only [u182_0, u182_1, u182_2, u182_5, u182_8, u182_9, u189_0, u189_1, u189_4, u189_5, u189_6, u189_16, u189_17, h0, if_false, nI_lt8, h, if_true, pu_some, pu_none]
theorem s_ch0_0 : T S (f + 4) 180 0 [some (.ref 104), some (.int (nI 0))] [] m Rt = Rt (some (.int (nI 107))) m := by
  have e1 : (strL.getD 0 []).getD 0 0 = nI 107 := by decide +kernel
  have e2 : ((nI 107 &&& nI 255).toUInt32 % 65536).toInt32 = nI 107 := by decide +kernel
  have e3 : (narrow .char (.int (nI 107)) = .int (nI 107)) = True := by simp; decide
  simp (disch := omega) only [u180_0, u180_1, u180_1v1, u180_1v2, u180_4, u180_7, u180_8, u180_8v1, u180_8v2, u180_11, u180_12, u180_15, u180_16, u180_17, u180_17v1, u180_17v2, u180_20, s_isL0, pu_some, pu_none, show ¬ nI 1 = nI 0 by decide, if_false, u185_0, u185_1, u185_2, u185_2v1, u185_2v2, u185_3, u185_6, u185_7, u185_8, u185_8v1, u185_8v2, u185_9, u185_12, u185_13, u185_14, s_chk, inB8 (show 0 < 4 by decide), nI_cl8, e1, e2, e3, true_and]
theorem s_ch0_1 : T S (f + 4) 180 0 [some (.ref 104), some (.int (nI 1))] [] m Rt = Rt (some (.int (nI 102))) m := by
  have e1 : (strL.getD 0 []).getD 1 0 = nI 102 := by decide +kernel
  have e2 : ((nI 102 &&& nI 255).toUInt32 % 65536).toInt32 = nI 102 := by decide +kernel
  have e3 : (narrow .char (.int (nI 102)) = .int (nI 102)) = True := by simp; decide
  simp (disch := omega) only [u180_0, u180_1, u180_1v1, u180_1v2, u180_4, u180_7, u180_8, u180_8v1, u180_8v2, u180_11, u180_12, u180_15, u180_16, u180_17, u180_17v1, u180_17v2, u180_20, s_isL0, pu_some, pu_none, show ¬ nI 1 = nI 0 by decide, if_false, u185_0, u185_1, u185_2, u185_2v1, u185_2v2, u185_3, u185_6, u185_7, u185_8, u185_8v1, u185_8v2, u185_9, u185_12, u185_13, u185_14, s_chk, inB8 (show 1 < 4 by decide), nI_cl8, e1, e2, e3, true_and]
theorem s_ch0_2 : T S (f + 4) 180 0 [some (.ref 104), some (.int (nI 2))] [] m Rt = Rt (some (.int (nI 102))) m := by
  have e1 : (strL.getD 0 []).getD 2 0 = nI 102 := by decide +kernel
  have e2 : ((nI 102 &&& nI 255).toUInt32 % 65536).toInt32 = nI 102 := by decide +kernel
  have e3 : (narrow .char (.int (nI 102)) = .int (nI 102)) = True := by simp; decide
  simp (disch := omega) only [u180_0, u180_1, u180_1v1, u180_1v2, u180_4, u180_7, u180_8, u180_8v1, u180_8v2, u180_11, u180_12, u180_15, u180_16, u180_17, u180_17v1, u180_17v2, u180_20, s_isL0, pu_some, pu_none, show ¬ nI 1 = nI 0 by decide, if_false, u185_0, u185_1, u185_2, u185_2v1, u185_2v2, u185_3, u185_6, u185_7, u185_8, u185_8v1, u185_8v2, u185_9, u185_12, u185_13, u185_14, s_chk, inB8 (show 2 < 4 by decide), nI_cl8, e1, e2, e3, true_and]
theorem s_ch0_3 : T S (f + 4) 180 0 [some (.ref 104), some (.int (nI 3))] [] m Rt = Rt (some (.int (nI 104))) m := by
  have e1 : (strL.getD 0 []).getD 3 0 = nI 104 := by decide +kernel
  have e2 : ((nI 104 &&& nI 255).toUInt32 % 65536).toInt32 = nI 104 := by decide +kernel
  have e3 : (narrow .char (.int (nI 104)) = .int (nI 104)) = True := by simp; decide
  simp (disch := omega) only [u180_0, u180_1, u180_1v1, u180_1v2, u180_4, u180_7, u180_8, u180_8v1, u180_8v2, u180_11, u180_12, u180_15, u180_16, u180_17, u180_17v1, u180_17v2, u180_20, s_isL0, pu_some, pu_none, show ¬ nI 1 = nI 0 by decide, if_false, u185_0, u185_1, u185_2, u185_2v1, u185_2v2, u185_3, u185_6, u185_7, u185_8, u185_8v1, u185_8v2, u185_9, u185_12, u185_13, u185_14, s_chk, inB8 (show 3 < 4 by decide), nI_cl8, e1, e2, e3, true_and]
theorem s_ch1_0 : T S (f + 4) 180 0 [some (.ref 106), some (.int (nI 0))] [] m Rt = Rt (some (.int (nI 102))) m := by
  have e1 : (strL.getD 1 []).getD 0 0 = nI 102 := by decide +kernel
  have e2 : ((nI 102 &&& nI 255).toUInt32 % 65536).toInt32 = nI 102 := by decide +kernel
  have e3 : (narrow .char (.int (nI 102)) = .int (nI 102)) = True := by simp; decide
  simp (disch := omega) only [u180_0, u180_1, u180_1v1, u180_1v2, u180_4, u180_7, u180_8, u180_8v1, u180_8v2, u180_11, u180_12, u180_15, u180_16, u180_17, u180_17v1, u180_17v2, u180_20, s_isL1, pu_some, pu_none, show ¬ nI 1 = nI 0 by decide, if_false, u185_0, u185_1, u185_2, u185_2v1, u185_2v2, u185_3, u185_6, u185_7, u185_8, u185_8v1, u185_8v2, u185_9, u185_12, u185_13, u185_14, s_chk, inB8 (show 0 < 2 by decide), nI_cl8, e1, e2, e3, true_and]
theorem s_ch1_1 : T S (f + 4) 180 0 [some (.ref 106), some (.int (nI 1))] [] m Rt = Rt (some (.int (nI 110))) m := by
  have e1 : (strL.getD 1 []).getD 1 0 = nI 110 := by decide +kernel
  have e2 : ((nI 110 &&& nI 255).toUInt32 % 65536).toInt32 = nI 110 := by decide +kernel
  have e3 : (narrow .char (.int (nI 110)) = .int (nI 110)) = True := by simp; decide
  simp (disch := omega) only [u180_0, u180_1, u180_1v1, u180_1v2, u180_4, u180_7, u180_8, u180_8v1, u180_8v2, u180_11, u180_12, u180_15, u180_16, u180_17, u180_17v1, u180_17v2, u180_20, s_isL1, pu_some, pu_none, show ¬ nI 1 = nI 0 by decide, if_false, u185_0, u185_1, u185_2, u185_2v1, u185_2v2, u185_3, u185_6, u185_7, u185_8, u185_8v1, u185_8v2, u185_9, u185_12, u185_13, u185_14, s_chk, inB8 (show 1 < 2 by decide), nI_cl8, e1, e2, e3, true_and]
theorem s_ch2_0 : T S (f + 4) 180 0 [some (.ref 108), some (.int (nI 0))] [] m Rt = Rt (some (.int (nI 100))) m := by
  have e1 : (strL.getD 2 []).getD 0 0 = nI 100 := by decide +kernel
  have e2 : ((nI 100 &&& nI 255).toUInt32 % 65536).toInt32 = nI 100 := by decide +kernel
  have e3 : (narrow .char (.int (nI 100)) = .int (nI 100)) = True := by simp; decide
  simp (disch := omega) only [u180_0, u180_1, u180_1v1, u180_1v2, u180_4, u180_7, u180_8, u180_8v1, u180_8v2, u180_11, u180_12, u180_15, u180_16, u180_17, u180_17v1, u180_17v2, u180_20, s_isL2, pu_some, pu_none, show ¬ nI 1 = nI 0 by decide, if_false, u185_0, u185_1, u185_2, u185_2v1, u185_2v2, u185_3, u185_6, u185_7, u185_8, u185_8v1, u185_8v2, u185_9, u185_12, u185_13, u185_14, s_chk, inB8 (show 0 < 5 by decide), nI_cl8, e1, e2, e3, true_and]
theorem s_ch2_1 : T S (f + 4) 180 0 [some (.ref 108), some (.int (nI 1))] [] m Rt = Rt (some (.int (nI 102))) m := by
  have e1 : (strL.getD 2 []).getD 1 0 = nI 102 := by decide +kernel
  have e2 : ((nI 102 &&& nI 255).toUInt32 % 65536).toInt32 = nI 102 := by decide +kernel
  have e3 : (narrow .char (.int (nI 102)) = .int (nI 102)) = True := by simp; decide
  simp (disch := omega) only [u180_0, u180_1, u180_1v1, u180_1v2, u180_4, u180_7, u180_8, u180_8v1, u180_8v2, u180_11, u180_12, u180_15, u180_16, u180_17, u180_17v1, u180_17v2, u180_20, s_isL2, pu_some, pu_none, show ¬ nI 1 = nI 0 by decide, if_false, u185_0, u185_1, u185_2, u185_2v1, u185_2v2, u185_3, u185_6, u185_7, u185_8, u185_8v1, u185_8v2, u185_9, u185_12, u185_13, u185_14, s_chk, inB8 (show 1 < 5 by decide), nI_cl8, e1, e2, e3, true_and]
theorem s_ch2_2 : T S (f + 4) 180 0 [some (.ref 108), some (.int (nI 2))] [] m Rt = Rt (some (.int (nI 110))) m := by
  have e1 : (strL.getD 2 []).getD 2 0 = nI 110 := by decide +kernel
  have e2 : ((nI 110 &&& nI 255).toUInt32 % 65536).toInt32 = nI 110 := by decide +kernel
  have e3 : (narrow .char (.int (nI 110)) = .int (nI 110)) = True := by simp; decide
  simp (disch := omega) only [u180_0, u180_1, u180_1v1, u180_1v2, u180_4, u180_7, u180_8, u180_8v1, u180_8v2, u180_11, u180_12, u180_15, u180_16, u180_17, u180_17v1, u180_17v2, u180_20, s_isL2, pu_some, pu_none, show ¬ nI 1 = nI 0 by decide, if_false, u185_0, u185_1, u185_2, u185_2v1, u185_2v2, u185_3, u185_6, u185_7, u185_8, u185_8v1, u185_8v2, u185_9, u185_12, u185_13, u185_14, s_chk, inB8 (show 2 < 5 by decide), nI_cl8, e1, e2, e3, true_and]
theorem s_ch2_3 : T S (f + 4) 180 0 [some (.ref 108), some (.int (nI 3))] [] m Rt = Rt (some (.int (nI 102))) m := by
  have e1 : (strL.getD 2 []).getD 3 0 = nI 102 := by decide +kernel
  have e2 : ((nI 102 &&& nI 255).toUInt32 % 65536).toInt32 = nI 102 := by decide +kernel
  have e3 : (narrow .char (.int (nI 102)) = .int (nI 102)) = True := by simp; decide
  simp (disch := omega) only [u180_0, u180_1, u180_1v1, u180_1v2, u180_4, u180_7, u180_8, u180_8v1, u180_8v2, u180_11, u180_12, u180_15, u180_16, u180_17, u180_17v1, u180_17v2, u180_20, s_isL2, pu_some, pu_none, show ¬ nI 1 = nI 0 by decide, if_false, u185_0, u185_1, u185_2, u185_2v1, u185_2v2, u185_3, u185_6, u185_7, u185_8, u185_8v1, u185_8v2, u185_9, u185_12, u185_13, u185_14, s_chk, inB8 (show 3 < 5 by decide), nI_cl8, e1, e2, e3, true_and]
theorem s_ch2_4 : T S (f + 4) 180 0 [some (.ref 108), some (.int (nI 4))] [] m Rt = Rt (some (.int (nI 102))) m := by
  have e1 : (strL.getD 2 []).getD 4 0 = nI 102 := by decide +kernel
  have e2 : ((nI 102 &&& nI 255).toUInt32 % 65536).toInt32 = nI 102 := by decide +kernel
  have e3 : (narrow .char (.int (nI 102)) = .int (nI 102)) = True := by simp; decide
  simp (disch := omega) only [u180_0, u180_1, u180_1v1, u180_1v2, u180_4, u180_7, u180_8, u180_8v1, u180_8v2, u180_11, u180_12, u180_15, u180_16, u180_17, u180_17v1, u180_17v2, u180_20, s_isL2, pu_some, pu_none, show ¬ nI 1 = nI 0 by decide, if_false, u185_0, u185_1, u185_2, u185_2v1, u185_2v2, u185_3, u185_6, u185_7, u185_8, u185_8v1, u185_8v2, u185_9, u185_12, u185_13, u185_14, s_chk, inB8 (show 4 < 5 by decide), nI_cl8, e1, e2, e3, true_and]
def kindV (x : Int32) : Int32 := if nI 97 = x.toInt8.toInt32 then nI 0 else if nI 115 = x.toInt8.toInt32 then nI 1 else if nI 116 = x.toInt8.toInt32 then nI 2 else if nI 100 = x.toInt8.toInt32 then nI 3 else -1
theorem s_ioc {x : Int32} : T S (f + 1) 188 0 [some (.ref 111), some (.int x), some (.int (nI 0)), some (.int (nI 4)), none, none] [] m Rt = Rt (some (.int (kindV x))) m := by
  have b0 : (strL.getD 3 []).getD 0 0 = nI 97 := by decide +kernel
  have b1 : (strL.getD 3 []).getD 1 0 = nI 115 := by decide +kernel
  have b2 : (strL.getD 3 []).getD 2 0 = nI 116 := by decide +kernel
  have b3 : (strL.getD 3 []).getD 3 0 = nI 100 := by decide +kernel
  have lp : ∀ k : Nat, k < 4 → ∀ y : Int32, (strL.getD 3 []).getD k 0 = y → T S (f + 1) 188 7 [some (.ref 111), some (.int x), some (.int (nI 0)), some (.int (nI 4)), some (.int x.toInt8.toInt32), some (.int (nI k))] [] m Rt = if y = x.toInt8.toInt32 then Rt (some (.int (nI k))) m else T S (f + 1) 188 7 [some (.ref 111), some (.int x), some (.int (nI 0)), some (.int (nI 4)), some (.int x.toInt8.toInt32), some (.int (nI (k + 1)))] [] m Rt := by
    intro k hk y hy
    have g : ¬ 4 ≤ k := by omega
    refine u188_7.trans ?_
    simp (disch := omega) only [u188_0, u188_1, u188_2, u188_4, u188_5, u188_9, u188_10, u188_13, u188_14, u188_16, u188_17, u188_19, u188_22, u188_24, u188_25, u188_28, u188_31, u188_32, nI_le8, g, if_false, inB8 hk, nI_cl8, hy, true_and, nI_add]
  have x4 : T S (f + 1) 188 7 [some (.ref 111), some (.int x), some (.int (nI 0)), some (.int (nI 4)), some (.int x.toInt8.toInt32), some (.int (nI 4))] [] m Rt = Rt (some (.int (-1))) m := by
    refine u188_7.trans ?_
    simp (disch := omega) only [u188_0, u188_1, u188_2, u188_4, u188_5, u188_9, u188_10, u188_13, u188_14, u188_16, u188_17, u188_19, u188_22, u188_24, u188_25, u188_28, u188_31, u188_32, nI_le8, Nat.le_refl, if_true]
  have e0 : T S (f + 1) 188 0 [some (.ref 111), some (.int x), some (.int (nI 0)), some (.int (nI 4)), none, none] [] m Rt = T S (f + 1) 188 7 [some (.ref 111), some (.int x), some (.int (nI 0)), some (.int (nI 4)), some (.int x.toInt8.toInt32), some (.int (nI 0))] [] m Rt := by
    simp only [u188_0, u188_1, u188_2, u188_4, u188_5, u188_9, u188_10, u188_13, u188_14, u188_16, u188_17, u188_19, u188_22, u188_24, u188_25, u188_28, u188_31, u188_32]
  rw [e0, lp 0 (by decide) _ b0, lp 1 (by decide) _ b1, lp 2 (by decide) _ b2, lp 3 (by decide) _ b3, x4]
  unfold kindV
  split
  · rfl
  · split
    · rfl
    · split
      · rfl
      · split <;> rfl
theorem s_kindOf {c : Nat} (hc : c < 256) : T S (f + 6) 20 0 [some (.int (nI c))] [] m Rt = Rt (some (.int (kindV (nI c)))) m := by
  have h0 : ¬ nI c < nI 0 := fun z => nI_pos (n := c) (by omega) z
  have h1 : ¬ nI 255 < nI c := nI_nlt (by omega) (by omega)
  have n1 : ¬ nI 1 = nI 0 := by decide
  have q0 : nI 0 < nI 4 := by decide
  have q1 : ¬ nI 0 < nI 0 := by decide
  have q2 : ¬ nI 4 < nI 4 := by decide
  simp only [u20_0, u20_2, u20_3, u20_6, u183_0, u183_1, u183_2, u183_3, u183_6, u184_0, u184_1, u184_4, u184_7, u184_8, u184_11, u184_12, u184_13, u184_14, u184_17, u184_20, u184_23, u184_24, u184_27, u184_28, u184_29, u184_30, u184_36, s_isL3, s_len3, pu_some, pu_none, u186_0, u186_1, u186_4, u186_7, u186_8, u186_9, u186_10, u186_11, u186_14, u186_15, u186_16, u186_17, u186_18, u186_21, u186_22, u186_23, u186_24, u186_27, u186_28, u186_29, u186_30, u186_31, u186_32, u186_33, u186_36, u187_0, u187_1, u187_4, u187_5, u187_8, u187_11, u187_12, u187_15, u187_16, h0, h1, n1, if_false, if_true, nar_z1, true_and, q0, q1, q2, s_ioc]
/-- may this byte stand where the shape has this sign -/
def fitB (sg : Nat) (x : Int32) : Prop := if sg = 107 then ¬ kindV x = -1 else if sg = 104 then ¬ x < nI 48 ∧ ¬ nI 55 < x else if sg = 110 then ¬ x < nI 49 ∧ ¬ nI 57 < x else if sg = 100 then ¬ x < nI 48 ∧ ¬ nI 50 < x else ¬ x < nI 48 ∧ ¬ nI 57 < x
theorem s_fit107 {c : Nat} (hc : c < 256) : T S (f + 7) 19 0 [some (.int (nI 107)), some (.int (nI c)), none, none] [] m Rt = Rt (some (.int (b01 (¬ kindV (nI c) = -1)))) m := by
  simp only [u19_0, u19_1, u19_3, u19_6, u19_7, u19_10, u19_11, u19_14, u19_15, u19_18, u19_19, u19_20, u19_21, u19_23, u19_26, u19_28, u19_31, u19_33, u19_34, u19_35, u19_37, u19_40, u19_42, u19_45, u19_46, u19_48, u19_51, u19_53, u19_56, u19_58, u19_59, u19_60, u19_61, u19_64, u19_65, u19_66, u19_69, u19_70, u19_73, u19_74, s_kindOf hc, pu_some, pu_none, nar_z0, nar_z1, true_and, if_true, if_false, show ¬ nI 107 = nI 110 by decide, show ¬ nI 107 = nI 104 by decide, show ¬ nI 107 = nI 100 by decide]
  by_cases h1 : kindV (nI c) = -1 <;> simp [h1, b01]
theorem s_fit104 {c : Nat} (hc : c < 256) : T S (f + 7) 19 0 [some (.int (nI 104)), some (.int (nI c)), none, none] [] m Rt = Rt (some (.int (b01 (¬ nI c < nI 48 ∧ ¬ nI 55 < nI c)))) m := by
  simp only [u19_0, u19_1, u19_3, u19_6, u19_7, u19_10, u19_11, u19_14, u19_15, u19_18, u19_19, u19_20, u19_21, u19_23, u19_26, u19_28, u19_31, u19_33, u19_34, u19_35, u19_37, u19_40, u19_42, u19_45, u19_46, u19_48, u19_51, u19_53, u19_56, u19_58, u19_59, u19_60, u19_61, u19_64, u19_65, u19_66, u19_69, u19_70, u19_73, u19_74, s_kindOf hc, pu_some, pu_none, nar_z0, nar_z1, true_and, if_true, if_false, show ¬ nI 104 = nI 107 by decide, show ¬ nI 104 = nI 110 by decide, show ¬ nI 104 = nI 100 by decide]
  by_cases h1 : nI c < nI 48 <;> by_cases h2 : nI 55 < nI c <;> simp [h1, h2, b01]
theorem s_fit110 {c : Nat} (hc : c < 256) : T S (f + 7) 19 0 [some (.int (nI 110)), some (.int (nI c)), none, none] [] m Rt = Rt (some (.int (b01 (¬ nI c < nI 49 ∧ ¬ nI 57 < nI c)))) m := by
  simp only [u19_0, u19_1, u19_3, u19_6, u19_7, u19_10, u19_11, u19_14, u19_15, u19_18, u19_19, u19_20, u19_21, u19_23, u19_26, u19_28, u19_31, u19_33, u19_34, u19_35, u19_37, u19_40, u19_42, u19_45, u19_46, u19_48, u19_51, u19_53, u19_56, u19_58, u19_59, u19_60, u19_61, u19_64, u19_65, u19_66, u19_69, u19_70, u19_73, u19_74, s_kindOf hc, pu_some, pu_none, nar_z0, nar_z1, true_and, if_true, if_false, show ¬ nI 110 = nI 107 by decide, show ¬ nI 110 = nI 104 by decide, show ¬ nI 110 = nI 100 by decide]
  by_cases h1 : nI c < nI 49 <;> by_cases h2 : nI 57 < nI c <;> simp [h1, h2, b01]
theorem s_fit100 {c : Nat} (hc : c < 256) : T S (f + 7) 19 0 [some (.int (nI 100)), some (.int (nI c)), none, none] [] m Rt = Rt (some (.int (b01 (¬ nI c < nI 48 ∧ ¬ nI 50 < nI c)))) m := by
  simp only [u19_0, u19_1, u19_3, u19_6, u19_7, u19_10, u19_11, u19_14, u19_15, u19_18, u19_19, u19_20, u19_21, u19_23, u19_26, u19_28, u19_31, u19_33, u19_34, u19_35, u19_37, u19_40, u19_42, u19_45, u19_46, u19_48, u19_51, u19_53, u19_56, u19_58, u19_59, u19_60, u19_61, u19_64, u19_65, u19_66, u19_69, u19_70, u19_73, u19_74, s_kindOf hc, pu_some, pu_none, nar_z0, nar_z1, true_and, if_true, if_false, show ¬ nI 100 = nI 107 by decide, show ¬ nI 100 = nI 110 by decide, show ¬ nI 100 = nI 104 by decide]
  by_cases h1 : nI c < nI 48 <;> by_cases h2 : nI 50 < nI c <;> simp [h1, h2, b01]
theorem s_fit102 {c : Nat} (hc : c < 256) : T S (f + 7) 19 0 [some (.int (nI 102)), some (.int (nI c)), none, none] [] m Rt = Rt (some (.int (b01 (¬ nI c < nI 48 ∧ ¬ nI 57 < nI c)))) m := by
  simp only [u19_0, u19_1, u19_3, u19_6, u19_7, u19_10, u19_11, u19_14, u19_15, u19_18, u19_19, u19_20, u19_21, u19_23, u19_26, u19_28, u19_31, u19_33, u19_34, u19_35, u19_37, u19_40, u19_42, u19_45, u19_46, u19_48, u19_51, u19_53, u19_56, u19_58, u19_59, u19_60, u19_61, u19_64, u19_65, u19_66, u19_69, u19_70, u19_73, u19_74, s_kindOf hc, pu_some, pu_none, nar_z0, nar_z1, true_and, if_true, if_false, show ¬ nI 102 = nI 107 by decide, show ¬ nI 102 = nI 110 by decide, show ¬ nI 102 = nI 104 by decide, show ¬ nI 102 = nI 100 by decide]
  by_cases h1 : nI c < nI 48 <;> by_cases h2 : nI 57 < nI c <;> simp [h1, h2, b01]
end STRS
