section LEAF
variable {S : AScr} {f : Nat} {m : AMem} {Rt : Option Value → AMem → Prop}
theorem s_isOneOf {a b : Int32} : T S (f + 1) 32 0 [some (.int a), some (.int b)] [] m Rt = Rt (some (.int (b01 (nI 0 ≤ a ∧ a < b)))) m := by
  simp only [u32_0, u32_1, u32_4, u32_5, u32_6, u32_9, u32_10, u32_13, u32_14, nar_z0, nar_z1, le_n]
  by_cases h1 : a < nI 0 <;> by_cases h2 : a < b <;> simp [h1, h2, b01]
theorem s_isDay {a : Int32} : T S (f + 2) 46 0 [some (.int a)] [] m Rt = Rt (some (.int (b01 (nI 0 ≤ a ∧ a < nI 30)))) m := by
  simp only [u46_0, u46_1, u46_3, u46_6, s_isOneOf, pu_some, pu_none, nar_b01, true_and]
theorem s_isText {a : Int32} : T S (f + 2) 31 0 [some (.int a)] [] m Rt = Rt (some (.int (b01 (nI 0 ≤ a ∧ a < nI 3)))) m := by
  simp only [u31_0, u31_1, u31_2, u31_5, s_isOneOf, pu_some, pu_none, nar_b01, true_and]
theorem s_in {a b c : Int32} : T S (f + 1) 89 0 [some (.int a), some (.int b), some (.int c)] [] m Rt = Rt (some (.int (b01 (b ≤ a ∧ a ≤ c)))) m := by
  simp only [u89_0, u89_1, u89_2, u89_5, u89_6, u89_7, u89_10, u89_11, u89_14, u89_15, nar_z0, nar_z1, le_n]
  by_cases h1 : a < b <;> by_cases h2 : c < a <;> simp [h1, h2, b01]
theorem s_isHouse {a : Int32} : T S (f + 1) 5 0 [some (.int a)] [] m Rt = Rt (some (.int (b01 (nI 0 ≤ a ∧ a < nI 8)))) m := by
  simp only [u5_0, u5_1, u5_4, u5_5, u5_7, u5_10, u5_11, u5_14, u5_15, nar_z0, nar_z1, le_n]
  by_cases h1 : a < nI 0 <;> by_cases h2 : a < nI 8 <;> simp [h1, h2, b01]
end LEAF
