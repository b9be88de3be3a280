section LAWR
variable {S : AScr} {m : AMem} {N : Nat → Nat} {B : Nat → Nat → Nat} {i : Nat}
theorem and63 (x : Int32) : ∃ v, v < 64 ∧ x &&& nI 63 = nI v := by
  have hx : x = nI x.toBitVec.toNat := by
    apply Int32.toBitVec_inj.mp
    apply BitVec.eq_of_toNat_eq
    rw [tb_nI x.toBitVec.isLt]
  refine ⟨x.toBitVec.toNat &&& 63, Nat.lt_of_le_of_lt Nat.and_le_right (by decide), ?_⟩
  rw [← nI_and x.toBitVec.isLt (by decide), ← hx]
theorem law_cmp (hS : S.1 ≤ 3072) (hi : i ≤ 4000) : (nI S.1 - nI 6 < nI i) = (S.1 < i + 6) := by
  by_cases z : 6 ≤ S.1
  · rw [nI_sub z, nI_lt8 (by omega) (by omega)]
    exact propext ⟨by omega, by omega⟩
  · have h0 : nI S.1 - nI 6 < nI 0 := by
      rcases (show S.1 = 0 ∨ S.1 = 1 ∨ S.1 = 2 ∨ S.1 = 3 ∨ S.1 = 4 ∨ S.1 = 5 by omega) with e | e | e | e | e | e <;> rw [e] <;> decide
    refine propext ⟨fun _ => by omega, fun _ => ?_⟩
    rw [fa2_lt, nI_toI (by omega)] at h0
    rw [fa2_lt, nI_toI (by omega)]
    omega
theorem law_any (hb : Bs N B m) (hc : Ca N B m) (h : i + 6 ≤ S.1) (hS : S.1 ≤ 3072) {v : Nat} (hv : v < 64) : ∃ N' B' m2, Bs N' B' m2 ∧ Ca N' B' m2 ∧ ∀ (f : Nat) (Rt : Option Value → AMem → Prop), T S (f + 14) 193 33 [some (.ref 112), some (.ref 0), some (.ref 73), some (.int (nI i))] [.int (nI v)] m Rt = T S (f + 14) 193 1275 [some (.ref 112), some (.ref 0), some (.ref 73), some (.int (nI i))] [] m2 Rt := by
  by_cases q : v < 35
  · rcases (show v = 0 ∨ v = 1 ∨ v = 2 ∨ v = 3 ∨ v = 4 ∨ v = 5 ∨ v = 6 ∨ v = 7 ∨ v = 8 ∨ v = 9 ∨ v = 10 ∨ v = 11 ∨ v = 12 ∨ v = 13 ∨ v = 14 ∨ v = 15 ∨ v = 16 ∨ v = 17 ∨ v = 18 ∨ v = 19 ∨ v = 20 ∨ v = 21 ∨ v = 22 ∨ v = 23 ∨ v = 24 ∨ v = 25 ∨ v = 26 ∨ v = 27 ∨ v = 28 ∨ v = 29 ∨ v = 30 ∨ v = 31 ∨ v = 32 ∨ v = 33 ∨ v = 34 by omega) with rfl | rfl | rfl | rfl | rfl | rfl | rfl | rfl | rfl | rfl | rfl | rfl | rfl | rfl | rfl | rfl | rfl | rfl | rfl | rfl | rfl | rfl | rfl | rfl | rfl | rfl | rfl | rfl | rfl | rfl | rfl | rfl | rfl | rfl | rfl
    · obtain ⟨N', B', m2, k1, k2, e⟩ := law_0 hb hc h hS
      exact ⟨N', B', m2, k1, k2, fun f Rt => (u193_33 (f := f + 13)).trans (e f Rt)⟩
    · obtain ⟨N', B', m2, k1, k2, e⟩ := law_1 hb hc h hS
      exact ⟨N', B', m2, k1, k2, fun f Rt => (u193_33v1 (f := f + 13)).trans (e f Rt)⟩
    · obtain ⟨N', B', m2, k1, k2, e⟩ := law_2 hb hc h hS
      exact ⟨N', B', m2, k1, k2, fun f Rt => (u193_33v2 (f := f + 13)).trans (e f Rt)⟩
    · obtain ⟨N', B', m2, k1, k2, e⟩ := law_3 hb hc h hS
      exact ⟨N', B', m2, k1, k2, fun f Rt => (u193_33v3 (f := f + 13)).trans (e f Rt)⟩
    · obtain ⟨N', B', m2, k1, k2, e⟩ := law_4 hb hc h hS
      exact ⟨N', B', m2, k1, k2, fun f Rt => (u193_33v4 (f := f + 13)).trans (e f Rt)⟩
    · obtain ⟨N', B', m2, k1, k2, e⟩ := law_5 hb hc h hS
      exact ⟨N', B', m2, k1, k2, fun f Rt => (u193_33v5 (f := f + 13)).trans (e f Rt)⟩
    · obtain ⟨N', B', m2, k1, k2, e⟩ := law_6 hb hc h hS
      exact ⟨N', B', m2, k1, k2, fun f Rt => (u193_33v6 (f := f + 13)).trans (e f Rt)⟩
    · obtain ⟨N', B', m2, k1, k2, e⟩ := law_7 hb hc h hS
      exact ⟨N', B', m2, k1, k2, fun f Rt => (u193_33v7 (f := f + 13)).trans (e f Rt)⟩
    · obtain ⟨N', B', m2, k1, k2, e⟩ := law_8 hb hc h hS
      exact ⟨N', B', m2, k1, k2, fun f Rt => (u193_33v8 (f := f + 13)).trans (e f Rt)⟩
    · obtain ⟨N', B', m2, k1, k2, e⟩ := law_9 hb hc h hS
      exact ⟨N', B', m2, k1, k2, fun f Rt => (u193_33v9 (f := f + 13)).trans (e f Rt)⟩
    · obtain ⟨N', B', m2, k1, k2, e⟩ := law_10 hb hc h hS
      exact ⟨N', B', m2, k1, k2, fun f Rt => (u193_33v10 (f := f + 13)).trans (e f Rt)⟩
    · obtain ⟨N', B', m2, k1, k2, e⟩ := law_11 hb hc h hS
      exact ⟨N', B', m2, k1, k2, fun f Rt => (u193_33v11 (f := f + 13)).trans (e f Rt)⟩
    · obtain ⟨N', B', m2, k1, k2, e⟩ := law_12 hb hc h hS
      exact ⟨N', B', m2, k1, k2, fun f Rt => (u193_33v12 (f := f + 13)).trans (e f Rt)⟩
    · obtain ⟨N', B', m2, k1, k2, e⟩ := law_13 hb hc h hS
      exact ⟨N', B', m2, k1, k2, fun f Rt => (u193_33v13 (f := f + 13)).trans (e f Rt)⟩
    · obtain ⟨N', B', m2, k1, k2, e⟩ := law_14 hb hc h hS
      exact ⟨N', B', m2, k1, k2, fun f Rt => (u193_33v14 (f := f + 13)).trans (e f Rt)⟩
    · obtain ⟨N', B', m2, k1, k2, e⟩ := law_15 hb hc h hS
      exact ⟨N', B', m2, k1, k2, fun f Rt => (u193_33v15 (f := f + 13)).trans (e f Rt)⟩
    · obtain ⟨N', B', m2, k1, k2, e⟩ := law_16 hb hc h hS
      exact ⟨N', B', m2, k1, k2, fun f Rt => (u193_33v16 (f := f + 13)).trans (e f Rt)⟩
    · obtain ⟨N', B', m2, k1, k2, e⟩ := law_17 hb hc h hS
      exact ⟨N', B', m2, k1, k2, fun f Rt => (u193_33v17 (f := f + 13)).trans (e f Rt)⟩
    · obtain ⟨N', B', m2, k1, k2, e⟩ := law_18 hb hc h hS
      exact ⟨N', B', m2, k1, k2, fun f Rt => (u193_33v18 (f := f + 13)).trans (e f Rt)⟩
    · obtain ⟨N', B', m2, k1, k2, e⟩ := law_19 hb hc h hS
      exact ⟨N', B', m2, k1, k2, fun f Rt => (u193_33v19 (f := f + 13)).trans (e f Rt)⟩
    · obtain ⟨N', B', m2, k1, k2, e⟩ := law_20 hb hc h hS
      exact ⟨N', B', m2, k1, k2, fun f Rt => (u193_33v20 (f := f + 13)).trans (e f Rt)⟩
    · obtain ⟨N', B', m2, k1, k2, e⟩ := law_21 hb hc h hS
      exact ⟨N', B', m2, k1, k2, fun f Rt => (u193_33v21 (f := f + 13)).trans (e f Rt)⟩
    · obtain ⟨N', B', m2, k1, k2, e⟩ := law_22 hb hc h hS
      exact ⟨N', B', m2, k1, k2, fun f Rt => (u193_33v22 (f := f + 13)).trans (e f Rt)⟩
    · obtain ⟨N', B', m2, k1, k2, e⟩ := law_23 hb hc h hS
      exact ⟨N', B', m2, k1, k2, fun f Rt => (u193_33v23 (f := f + 13)).trans (e f Rt)⟩
    · obtain ⟨N', B', m2, k1, k2, e⟩ := law_24 hb hc h hS
      exact ⟨N', B', m2, k1, k2, fun f Rt => (u193_33v24 (f := f + 13)).trans (e f Rt)⟩
    · obtain ⟨N', B', m2, k1, k2, e⟩ := law_25 hb hc h hS
      exact ⟨N', B', m2, k1, k2, fun f Rt => (u193_33v25 (f := f + 13)).trans (e f Rt)⟩
    · obtain ⟨N', B', m2, k1, k2, e⟩ := law_26 hb hc h hS
      exact ⟨N', B', m2, k1, k2, fun f Rt => (u193_33v26 (f := f + 13)).trans (e f Rt)⟩
    · obtain ⟨N', B', m2, k1, k2, e⟩ := law_27 hb hc h hS
      exact ⟨N', B', m2, k1, k2, fun f Rt => (u193_33v27 (f := f + 13)).trans (e f Rt)⟩
    · obtain ⟨N', B', m2, k1, k2, e⟩ := law_28 hb hc h hS
      exact ⟨N', B', m2, k1, k2, fun f Rt => (u193_33v28 (f := f + 13)).trans (e f Rt)⟩
    · obtain ⟨N', B', m2, k1, k2, e⟩ := law_29 hb hc h hS
      exact ⟨N', B', m2, k1, k2, fun f Rt => (u193_33v29 (f := f + 13)).trans (e f Rt)⟩
    · obtain ⟨N', B', m2, k1, k2, e⟩ := law_30 hb hc h hS
      exact ⟨N', B', m2, k1, k2, fun f Rt => (u193_33v30 (f := f + 13)).trans (e f Rt)⟩
    · obtain ⟨N', B', m2, k1, k2, e⟩ := law_31 hb hc h hS
      exact ⟨N', B', m2, k1, k2, fun f Rt => (u193_33v31 (f := f + 13)).trans (e f Rt)⟩
    · obtain ⟨N', B', m2, k1, k2, e⟩ := law_32 hb hc h hS
      exact ⟨N', B', m2, k1, k2, fun f Rt => (u193_33v32 (f := f + 13)).trans (e f Rt)⟩
    · obtain ⟨N', B', m2, k1, k2, e⟩ := law_33 hb hc h hS
      exact ⟨N', B', m2, k1, k2, fun f Rt => (u193_33v33 (f := f + 13)).trans (e f Rt)⟩
    · obtain ⟨N', B', m2, k1, k2, e⟩ := law_34 hb hc h hS
      exact ⟨N', B', m2, k1, k2, fun f Rt => (u193_33v34 (f := f + 13)).trans (e f Rt)⟩
  · exact ⟨N, B, m, hb, hc, fun f Rt => R_tsD (f := f + 13) mc193 dL_law_33 rfl (Or.inr (by rw [nI_toI (by omega)]; omega))⟩
theorem law_run (hS : S.1 ≤ 3072) (f : Nat) : ∀ (n i : Nat) (m : AMem) (N : Nat → Nat) (B : Nat → Nat → Nat), S.1 < i + 6 + 6 * n → i ≤ 3100 → Bs N B m → Ca N B m → T S (f + 14) 193 18 [some (.ref 112), some (.ref 0), some (.ref 73), some (.int (nI i))] [] m (fun r _ => r = some (.int (nI 1))) := by
  intro n
  induction n with
  | zero =>
    intro i m N B hn hi hb hc
    have hq := eq_true (p := S.1 < i + 6) (by omega)
    simp only [u193_18, u193_19, u193_20, u193_21, u193_23, u193_24, u193_1281, u193_1282, law_cmp hS (show i ≤ 4000 by omega), hq, if_true]
    exact ⟨by decide, trivial⟩
  | succ n ih =>
    intro i m N B hn hi hb hc
    by_cases z : S.1 < i + 6
    · have hq := eq_true z
      simp only [u193_18, u193_19, u193_20, u193_21, u193_23, u193_24, u193_1281, u193_1282, law_cmp hS (show i ≤ 4000 by omega), hq, if_true]
      exact ⟨by decide, trivial⟩
    · have hq := eq_false z
      obtain ⟨v, hv, ev⟩ := and63 (S.2 i)
      obtain ⟨N', B', m2, k1, k2, e⟩ := law_any (S := S) hb hc (i := i) (by omega) hS hv
      have hB : inB (nI i) S.1 = true := inB8 (by omega) (by omega)
      have hC : (nI i).toNatClampNeg = i := nI_cl8 (by omega)
      simp only [u193_18, u193_19, u193_20, u193_21, u193_23, u193_24, u193_27, u193_28, u193_29, u193_30, u193_32, law_cmp hS (show i ≤ 4000 by omega), hq, if_false, hB, hC, true_and, ev, e]
      simp only [u193_1275, u193_1278, nI_add]
      exact ih (i + 6) m2 N' B' (by omega) (by omega) k1 k2
theorem law_all (hS : S.1 ≤ 3072) (hb : Bs N B m) (hc : Ca N B m) : T S 14 193 18 [some (.ref 112), some (.ref 0), some (.ref 73), some (.int (nI 0))] [] m (fun r _ => r = some (.int (nI 1))) := law_run hS 0 600 0 m N B (by omega) (by omega) hb hc
end LAWR
