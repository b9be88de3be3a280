section UPW
variable {S : AScr} {m m0 m1 m2 m3 M X : AMem} {N N' : Nat → Nat} {B B' : Nat → Nat → Nat}
theorem s_writeN {s : Nat} (hs : s < 4) {men inns fleet : Nat} (h : TS men inns fleet m) {n d : Nat} (hd : d < 30) (hh : Sh s n m) {f : Nat} {Rt : Option Value → AMem → Prop} : T S (f + 6) 79 0 [some (.ref 0), some (.int (nI d)), some (.int (nI s)), none, none, none] [] m Rt = if m (65 + s) 1 = -1 then Rt (some (.int (-10 - nI 1))) (up m 0 11 (nI 1)) else Rt (some (.int (nI (minN n men)))) (it (minN n men) (writeF men fleet s d) m) := by
  match s, hs with
  | 0, _ => exact s_write0 h hd hh
  | 1, _ => exact s_write1 h hd hh
  | 2, _ => exact s_write2 h hd hh
  | 3, _ => exact s_write3 h hd hh
theorem mon_idem {men fleet : Nat} (h : ¬ X 0 9 = nI 0) : monM men fleet X = X := by
  unfold monM
  rw [if_neg h]
theorem mon_09 {men fleet : Nat} : ¬ monM men fleet m 0 9 = nI 0 := by
  unfold monM
  by_cases q : m 0 9 = nI 0
  · rw [if_pos q, up_at]
    decide
  · rw [if_neg q]
    exact q
theorem writeF_e {men fleet s d k : Nat} : writeF men fleet s d k m = setM s (nI k) (monM men fleet m 40 (d * 8 + k)) (monM men fleet m) := rfl
/-- the class's side of write -/
theorem wr_class (h : Bs N B m) (hc : Ca N B m) {s d c n : Nat} (hs : s < 4) (hd : d < 30) (hn : m (65 + s) 2 = nI n) (hc2 : c ≤ mN N B ∧ c ≤ n ∧ n ≤ 60) : ∃ mb, Kc m mb ∧ Ca N B mb ∧ ∀ r j, it c (writeF (mN N B) (fN N B) s d) m r j = if r = 69 + s ∧ j < c then narF (m (65 + s) 1) (RR N B (w0 N B) d 86 j) else mb r j := by
  obtain ⟨r1, r2, r3⟩ := Ca_run h hc
  have h8 := (Bs_m8 h).1
  generalize hM : monM (mN N B) (fN N B) m = mb at *
  have h09 : ¬ mb 0 9 = nI 0 := by rw [← hM]; exact mon_09
  by_cases z : c = 0
  · subst z
    exact ⟨m, Kc_r, hc, fun r j => by rw [if_neg (fun y => by omega)]; rfl⟩
  · have key : ∀ k, k ≤ c → 0 < k → ∀ r j, it k (writeF (mN N B) (fN N B) s d) m r j = if r = 69 + s ∧ j < k then narF (m (65 + s) 1) (RR N B (w0 N B) d 86 j) else mb r j := by
      intro k
      induction k with
      | zero => intro _ hk; omega
      | succ k ih =>
        intro hk _ r j
        rw [it_s]
        have hX : ∃ X, monM (mN N B) (fN N B) (it k (writeF (mN N B) (fN N B) s d) m) = X ∧ ∀ r j, X r j = if r = 69 + s ∧ j < k then narF (m (65 + s) 1) (RR N B (w0 N B) d 86 j) else mb r j := by
          refine ⟨_, rfl, ?_⟩
          by_cases y : k = 0
          · subst y
            intro r j
            rw [if_neg (fun y => by omega)]
            show monM (mN N B) (fN N B) m r j = mb r j
            rw [hM]
          · have ih := ih (by omega) (by omega)
            rw [mon_idem (by rw [ih, if_neg (fun u => by omega)]; exact h09)]
            exact ih
        obtain ⟨X, eX, hX⟩ := hX
        have e40 : X 40 (d * 8 + k) = RR N B (w0 N B) d 86 k := by
          rw [hX, if_neg (fun u => by omega), d8]
          exact ((r3.2 d hd).1 k (by omega)).1
        have e652 : X (65 + s) 2 = nI n := by
          rw [hX, if_neg (fun u => by omega), Kc_at r1 (by omega) (by omega)]
          exact hn
        have e651 : X (65 + s) 1 = m (65 + s) 1 := by
          rw [hX, if_neg (fun u => by omega), Kc_at r1 (by omega) (by omega)]
        rw [writeF_e, eX, e40]
        unfold setM
        rw [if_pos ⟨nI_P (by omega) (by decide), by rw [e652, nI_lt8 (by omega) (by omega)]; omega⟩, nI_cl8 (by omega), e651]
        by_cases y : r = 69 + s ∧ j = k
        · obtain ⟨rfl, rfl⟩ := y
          rw [up_at, if_pos ⟨rfl, by omega⟩]
        · rw [up_off (by omega), hX]
          by_cases u : r = 69 + s ∧ j < k
          · rw [if_pos u, if_pos ⟨u.1, by omega⟩]
          · rw [if_neg u, if_neg (fun v => by omega)]
    exact ⟨mb, r1, r2, key c (Nat.le_refl _) (by omega)⟩
theorem min_e {a b : Nat} : minN a b ≤ a ∧ minN a b ≤ b ∧ (minN a b = a ∨ minN a b = b) := by
  unfold minN
  split <;> omega
set_option maxHeartbeats 1000000 in
theorem p_write (h : Bs N B m) (hc : Ca N B m) {d x : Int32} : PR S 79 171 [some (.ref 0), some (.int d), some (.int x), none, none, none] [some (.ref 73), some (.int d), some (.int x), none] m := by
  by_cases hd : nI 0 ≤ d ∧ d < nI 30
  · have hdt : (nI 0 ≤ d ∧ d < nI 30) = True := eq_true hd
    by_cases hx : nI 0 ≤ x ∧ x < nI 4
    · obtain ⟨s, hs, rfl⟩ := P_nI hx (by decide)
      obtain ⟨dy, hdy, rfl⟩ := P_nI hd (by decide)
      have hxt : (nI 0 ≤ nI s ∧ nI s < nI 4) = True := eq_true hx
      have hBs : inB (nI s) 4 = true := inB8 hs (by decide)
      have hcs : (nI s).toNatClampNeg = s := nI_cl8 (by omega)
      have hsh := h.2.2.2.2.2.2 s hs
      have hl := lost_e hsh
      obtain ⟨n, hn, a1, a2⟩ := hsh.1
      have e1 := fun (f : Nat) (Rt : Option Value → AMem → Prop) => s_writeN (S := S) (f := f + 7) (m := m) (Rt := Rt) hs (Bs_TS h) hdy ⟨a1, hn⟩
      by_cases q : m (65 + s) 1 = -1
      · simp only [if_pos q] at e1
        have hl2 : (m 99 s = nI 0) = True := by rw [hl]; exact eq_true q
        refine pr_find h hc e1 (fun f Rt => ?_)
        simp only [u171_0, u171_1, u171_4, u171_7, u171_8, u171_11, u171_14, u171_16, u171_17, u171_18, u171_21, u171_22, u171_23, u171_26, u171_27, u171_28, u171_31, u171_32, u171_33, u171_34, u171_37, u171_38, u171_40, u171_41, u171_44, u171_45, u171_46, u171_49, u171_50, u171_51, u171_54, u171_57, u171_58, u171_59, u171_60, u171_61, u171_64, u171_65, u171_66, u171_69, u171_72, u171_75, u171_76, s_mDay, s_mSheet, s_meets, pu_some, pu_none, b01_e0, hdt, hxt, not_true, if_false, hBs, hcs, true_and, up_row (show (99 : Nat) ≠ 0 by decide), hl2, if_true]
      · simp only [if_neg q] at e1
        have hl2 : (m 99 s = nI 0) = False := by rw [hl]; exact eq_false q
        have hform := form_e hsh q
        obtain ⟨mn1, mn2, mn3⟩ := min_e (a := n) (b := mN N B)
        have h8 := (Bs_m8 h).1
        obtain ⟨mb, kb, cb, hcell⟩ := wr_class h hc (c := minN n (mN N B)) hs hdy a1 ⟨mn2, mn1, hn⟩
        have hBb := Bs_c h kb
        generalize minN n (mN N B) = c at *
        generalize it c (writeF (mN N B) (fN N B) s dy) m = m1 at *
        have row1 : ∀ r, r ≠ 69 + s → m1 r = mb r := fun r hr => funext fun j => by rw [hcell, if_neg (fun z => hr z.1)]
        have mbm : ∀ r, 59 < r → mb r = m r := fun r hr => funext fun j => Kc_at kb (by omega) (by omega)
        have hB1 : Bs N B m1 ∨ True := Or.inr trivial
        -- the other side reads and runs from m1
        have u1 : ∀ t, t < 3 → Ux t (N t) (B t) m1 := fun t ht => Ux_keep (hBb.1 t ht).2 (row1 74 (by omega)) (row1 75 (by omega))
        have x0 := Bs_bd h (t := 0) (by decide)
        have x1 := Bs_bd h (t := 1) (by decide)
        have x2 := Bs_bd h (t := 2) (by decide)
        obtain ⟨w1, w2, w3⟩ := reads_MW (m := m1) x0.1 x1.1 x2.1 x0.2 x1.2 x2.2
        have e15 : m1 73 15 = nI (N 3) := by rw [row1 73 (by omega)]; exact hBb.2.1.2.2.1
        rw [e15] at w1
        have hR : Rd S m1 (faultM (N 0) (N 1) (N 2) (B 0) (B 1) (B 2) m1) := fun f Rt => s_mReads (u1 0 (by decide)) (u1 1 (by decide)) (u1 2 (by decide))
        have kF : Km m1 (faultM (N 0) (N 1) (N 2) (B 0) (B 1) (B 2) m1) := Km_rows (fun a b1 b2 b3 => by unfold faultM; rw [partsM_row (by omega), partsM_row (by omega), partsM_row (by omega)]) (fun j hj => w2 j (by omega))
        generalize faultM (N 0) (N 1) (N 2) (B 0) (B 1) (B 2) m1 = F at *
        have h0 : MWn N B (w0 N B) (up F 73 16 (nI 0)) := MQ_set ⟨_, w1⟩
        have hw := Bs_ok0 h
        have hE := mr_eq hw h0 (z := dy) (by omega)
        have hrun := fun f Rt => s_mr (S := S) (f := f) (Rt := Rt) hw h0 (z := dy) (by omega)
        have kY : Km m1 (mRunM (mN N B) (fN N B) dy (up F 73 16 (nI 0))) := Km_t kF (Km_t (Km_up (Or.inl ⟨rfl, by decide⟩)) Km_run)
        have hY : MWn N B (w0 N B) (mRunM (mN N B) (fN N B) dy (up F 73 16 (nI 0))) := MW_run h0
        have etold : ∀ (f : Nat) (Rt : Option Value → AMem → Prop), T S (f + 7) 114 0 [some (.ref 73), some (.int (nI dy))] [] m1 Rt = Rt none (mRunM (mN N B) (fN N B) dy (up F 73 16 (nI 0))) := fun f Rt => by
          simp only [u114_0, u114_1, u114_4, u114_5, u114_6, u114_9, u114_10, u114_11, u114_14, Rd_e hR, hrun, pu_some, pu_none]
        generalize mRunM (mN N B) (fN N B) dy (up F 73 16 (nI 0)) = Y at *
        have yr : ∀ r, r = 99 ∨ r = 100 ∨ r = 101 ∨ r = 102 → Y r = m r := fun r hr => by
          rw [show Y r = m1 r from funext fun j => Km_at kY (by omega) (by omega) (by omega), row1 r (by omega), mbm r (by omega)]
        have y100 : Y 100 s = m (65 + s) 1 := by rw [yr 100 (by omega)]; exact hform
        have y101 : Y 101 s = nI n := by rw [yr 101 (by omega)]; exact a2
        have it102 : ∀ k (r j : Nat), it k (fun k X => up X 102 (60 * s + k) (narF (m (65 + s) 1) (RR N B (w0 N B) dy 86 k))) Y r j = if r = 102 ∧ 60 * s ≤ j ∧ j < 60 * s + k then narF (m (65 + s) 1) (RR N B (w0 N B) dy 86 (j - 60 * s)) else Y r j := by
          intro k
          induction k with
          | zero => intro r j; rw [if_neg (fun z => by omega)]; rfl
          | succ k ih =>
            intro r j
            rw [it_s]
            by_cases z : r = 102 ∧ j = 60 * s + k
            · obtain ⟨rfl, rfl⟩ := z
              rw [up_at, if_pos ⟨rfl, by omega⟩, show 60 * s + k - 60 * s = k by omega]
            · rw [up_off (by omega), ih]
              by_cases u : r = 102 ∧ 60 * s ≤ j ∧ j < 60 * s + k
              · rw [if_pos u, if_pos (by omega)]
              · rw [if_neg u, if_neg (by omega)]
        have e := fun (f : Nat) (Rt : Option Value → AMem → Prop) => it_run (fun k (X : AMem) => T S (f + 13) 171 39 [some (.ref 73), some (.int (nI dy)), some (.int (nI s)), some (.int (nI k))] [] X Rt) (fun k X => up X 102 (60 * s + k) (narF (m (65 + s) 1) (RR N B (w0 N B) dy 86 k))) (fun _ X => ∀ r, r ≠ 102 → X r = Y r) c (fun k _ X hX r hr => by rw [up_row hr]; exact hX r hr) (fun k hk X hX => by
          have q1 : ¬ n ≤ k := by omega
          have q2 : ¬ mN N B ≤ k := by omega
          have hB8 : inB (nI k) 8 = true := inB8 (by omega) (by decide)
          have hck : (nI k).toNatClampNeg = k := nI_cl8 (by omega)
          have e101 : X 101 s = nI n := by rw [hX 101 (by decide)]; exact y101
          have e2 : X 73 2 = nI (mN N B) := by rw [hX 73 (by decide)]; exact hY.1.1
          have e86 : X 86 k = RR N B (w0 N B) dy 86 k := by rw [hX 86 (by decide)]; exact (hE.1 k (by omega)).1
          have ek := fun f Rt => s_keep (S := S) (f := f) (Rt := Rt) (X := X) (v := RR N B (w0 N B) dy 86 k) hs (show k < 60 by omega)
          rw [hX 100 (by decide), y100] at ek
          refine u171_39.trans ?_
          simp (disch := omega) only [u171_0, u171_1, u171_4, u171_7, u171_8, u171_11, u171_14, u171_16, u171_17, u171_18, u171_21, u171_22, u171_23, u171_26, u171_27, u171_28, u171_31, u171_32, u171_33, u171_34, u171_37, u171_38, u171_40, u171_41, u171_44, u171_45, u171_46, u171_49, u171_50, u171_51, u171_54, u171_57, u171_58, u171_59, u171_60, u171_61, u171_64, u171_65, u171_66, u171_69, u171_72, u171_75, u171_76, hBs, hcs, true_and, e101, nI_le8, q1, q2, if_false, e2, hB8, hck, e86, ek, pu_some, pu_none, nI_add]) Y (fun r _ => rfl)
        have hZ := it102 c
        have hZr : ∀ r, r ≠ 102 → it c (fun k X => up X 102 (60 * s + k) (narF (m (65 + s) 1) (RR N B (w0 N B) dy 86 k))) Y r = Y r := fun r hr => it_row (fun k m => up_row hr) c Y
        generalize it c (fun k X => up X 102 (60 * s + k) (narF (m (65 + s) 1) (RR N B (w0 N B) dy 86 k))) Y = Z at *
        -- the base: as if no item had been written
        have kBase : Km mb (fun r j => if r = 69 + s ∨ r = 102 then mb r j else Z r j) := fun r j => by
          by_cases z : r = 69 + s ∨ r = 102
          · exact Or.inr (Or.inr (Or.inr (if_pos z)))
          · rcases kY r j with b | b | b | b
            · exact Or.inl b
            · exact Or.inr (Or.inl b)
            · exact Or.inr (Or.inr (Or.inl b))
            · refine Or.inr (Or.inr (Or.inr ((if_neg z).trans ?_)))
              rw [hZr r (by omega), b, row1 r (by omega)]
        have hBB := Bs_m hBb kBase
        have hCB := Ca_m cb kBase
        obtain ⟨k1, k2⟩ := sheet_Bs (m2 := Z) hBB hCB (fun r j b1 b2 b3 b4 => by
          show Z r j = if r = 69 + s ∨ r = 102 then mb r j else Z r j
          rw [if_neg (by omega)]) (by
          have := hBB.2.2.2.2.2.1
          dsimp only at this
          rw [if_neg (by omega), if_neg (by omega)] at this
          exact this) (fun s2 hs2 => by
          have z65 : Z (65 + s2) = m (65 + s2) := by
            rw [hZr _ (by omega), show Y (65 + s2) = m1 (65 + s2) from funext fun j => Km_at kY (by omega) (by omega) (by omega), row1 _ (by omega), mbm _ (by omega)]
          have z69 : ∀ j, Z (69 + s2) j = m1 (69 + s2) j := fun j => by rw [hZr _ (by omega)]; exact Km_at kY (by omega) (by omega) (by omega)
          have z99 : Z 99 = m 99 := by rw [hZr _ (by omega), yr 99 (by omega)]
          have z100 : Z 100 = m 100 := by rw [hZr _ (by omega), yr 100 (by omega)]
          have z101 : Z 101 = m 101 := by rw [hZr _ (by omega), yr 101 (by omega)]
          obtain ⟨p1, p2, p3⟩ := h.2.2.2.2.2.2 s2 hs2
          unfold ShL
          rw [z65, z99, z100, z101]
          refine ⟨p1, p2, fun i hi => ?_⟩
          rw [z69, hZ]
          by_cases zz : s2 = s
          · subst zz
            by_cases w : i < c
            · rw [hcell, if_pos ⟨rfl, w⟩, if_pos ⟨rfl, by omega, by omega⟩, show 60 * s2 + i - 60 * s2 = i by omega]
            · rw [hcell, if_neg (fun u => w u.2), if_neg (fun u => by omega), yr 102 (by omega), mbm _ (by omega)]
              exact p3 i hi
          · rw [if_neg (fun u => by omega), row1 _ (by omega), yr 102 (by omega), mbm _ (by omega)]
            exact p3 i hi)
        refine ⟨(nI c), m1, Z, N, B, k1, k2, e1, fun f Rt => ?_⟩
        have m99 : m1 99 = m 99 := by rw [row1 99 (by omega), mbm 99 (by omega)]
        have z101 : Z 101 s = nI n := by rw [hZr _ (by omega)]; exact y101
        have z2 : Z 73 2 = nI (mN N B) := by rw [hZr _ (by omega)]; exact hY.1.1
        refine Eq.trans ?_ ((e f Rt).trans ?_)
        · simp only [u171_0, u171_1, u171_4, u171_7, u171_8, u171_11, u171_14, u171_16, u171_17, u171_18, u171_21, u171_22, u171_23, u171_26, u171_27, u171_28, u171_31, u171_32, u171_33, u171_34, u171_37, u171_38, u171_40, u171_41, u171_44, u171_45, u171_46, u171_49, u171_50, u171_51, u171_54, u171_57, u171_58, u171_59, u171_60, u171_61, u171_64, u171_65, u171_66, u171_69, u171_72, u171_75, u171_76, s_mDay, s_mSheet, pu_some, pu_none, b01_e0, hdt, hxt, not_true, if_false, hBs, hcs, true_and, m99, hl2, etold]
        · refine u171_39.trans ?_
          rcases mn3 with hcn | hcn
          · simp (disch := omega) only [u171_0, u171_1, u171_4, u171_7, u171_8, u171_11, u171_14, u171_16, u171_17, u171_18, u171_21, u171_22, u171_23, u171_26, u171_27, u171_28, u171_31, u171_32, u171_33, u171_34, u171_37, u171_38, u171_40, u171_41, u171_44, u171_45, u171_46, u171_49, u171_50, u171_51, u171_54, u171_57, u171_58, u171_59, u171_60, u171_61, u171_64, u171_65, u171_66, u171_69, u171_72, u171_75, u171_76, hBs, hcs, true_and, z101, hcn, nI_le8, Nat.le_refl, if_true]
          · by_cases w : n ≤ c
            · simp (disch := omega) only [u171_0, u171_1, u171_4, u171_7, u171_8, u171_11, u171_14, u171_16, u171_17, u171_18, u171_21, u171_22, u171_23, u171_26, u171_27, u171_28, u171_31, u171_32, u171_33, u171_34, u171_37, u171_38, u171_40, u171_41, u171_44, u171_45, u171_46, u171_49, u171_50, u171_51, u171_54, u171_57, u171_58, u171_59, u171_60, u171_61, u171_64, u171_65, u171_66, u171_69, u171_72, u171_75, u171_76, hBs, hcs, true_and, z101, nI_le8, w, if_true]
            · simp (disch := omega) only [u171_0, u171_1, u171_4, u171_7, u171_8, u171_11, u171_14, u171_16, u171_17, u171_18, u171_21, u171_22, u171_23, u171_26, u171_27, u171_28, u171_31, u171_32, u171_33, u171_34, u171_37, u171_38, u171_40, u171_41, u171_44, u171_45, u171_46, u171_49, u171_50, u171_51, u171_54, u171_57, u171_58, u171_59, u171_60, u171_61, u171_64, u171_65, u171_66, u171_69, u171_72, u171_75, u171_76, hBs, hcs, true_and, z101, nI_le8, w, if_false, z2, ← hcn, Nat.le_refl, if_true]
    · have hxt : (nI 0 ≤ x ∧ x < nI 4) = False := eq_false hx
      refine pr_same h hc (fun f Rt => s_writeB (f := f + 7) (fun z => hx z.2)) (fun f Rt => ?_)
      simp only [u171_0, u171_1, u171_4, u171_7, u171_8, u171_11, u171_14, u171_16, u171_17, u171_18, u171_21, u171_22, u171_23, u171_26, u171_27, u171_28, u171_31, u171_32, u171_33, u171_34, u171_37, u171_38, u171_40, u171_41, u171_44, u171_45, u171_46, u171_49, u171_50, u171_51, u171_54, u171_57, u171_58, u171_59, u171_60, u171_61, u171_64, u171_65, u171_66, u171_69, u171_72, u171_75, u171_76, s_mDay, s_mSheet, pu_some, pu_none, b01_e0, hdt, hxt, not_true, not_false_iff, if_false, if_true]
  · have hdt : (nI 0 ≤ d ∧ d < nI 30) = False := eq_false hd
    refine pr_same h hc (fun f Rt => s_writeB (f := f + 7) (fun z => hd z.1)) (fun f Rt => ?_)
    simp only [u171_0, u171_1, u171_4, u171_7, u171_8, u171_11, u171_14, u171_16, u171_17, u171_18, u171_21, u171_22, u171_23, u171_26, u171_27, u171_28, u171_31, u171_32, u171_33, u171_34, u171_37, u171_38, u171_40, u171_41, u171_44, u171_45, u171_46, u171_49, u171_50, u171_51, u171_54, u171_57, u171_58, u171_59, u171_60, u171_61, u171_64, u171_65, u171_66, u171_69, u171_72, u171_75, u171_76, s_mDay, pu_some, pu_none, b01_e0, hdt, not_false_iff, if_true]
end UPW
