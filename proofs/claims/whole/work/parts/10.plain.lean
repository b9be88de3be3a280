theorem cat8_ok {nu : Value} (hnu : nu.category = 1) (ad : Nat → Nat) {st : List Value} (h : cat8 st = true) : ((st.map (tv ad nu)).map fun v => v.category).sum ≤ 8 := by
  have e : ((st.map (tv ad nu)).map fun v => v.category) = st.map fun v => v.category := by
    rw [List.map_map]
    apply List.map_congr_left
    intro v _
    exact tv_cat hnu v
  rw [e]
  exact Nat.le_of_ble_eq_true h
def calP (c : Nat) (e : Nat × Nat × Nat × Nat) : Bool := (Nat.blt e.2.2.1 193) && Nat.ble e.2.1 5 && ((! Nat.beq e.2.1 4) || decide (lw_tbl[e.2.2.2]? = some (.methodLink (cn c) e.1 Lib.Math.min.name))) && ((! Nat.beq e.2.1 5) || decide (lw_tbl[e.2.2.2]? = some (.methodLink (cn c) e.1 Lib.Math.max.name))) && ((! Nat.beq e.2.1 2) || (Nat.beq c 2 && Nat.beq e.1 25 && Nat.beq e.2.2.1 46)) && ((! Nat.beq e.2.1 3) || decide (lw_tbl[e.2.2.2]? = some (.methodLink (cn c) e.1 arraycopyName)))
theorem cal_P {c idx k q pl : Nat} (h : cal c idx = some (k, q, pl)) : calP c (idx, k, q, pl) = true := by
  have h0 : (idx, k, q, pl) ∈ calT.getD c [] := findI_mem h
  exact tab_all (tab := calT) (N := 16) (P := calP) (by decide +kernel) cal_kind h0
theorem cal_copy {c idx q pl : Nat} (h : cal c idx = some (3, q, pl)) : Cond.methodLink (cn c) idx arraycopyName ∈ lw_tbl := by
  have h1 := cal_P h
  unfold calP at h1
  simp only [Bool.and_eq_true, Bool.or_eq_true] at h1
  rcases h1.2 with h2 | h2
  · cases h2
  · exact List.mem_of_getElem? (of_decide_eq_true h2)
theorem cal_min {c idx q pl : Nat} (h : cal c idx = some (4, q, pl)) : Cond.methodLink (cn c) idx Lib.Math.min.name ∈ lw_tbl := by
  have h1 := cal_P h
  unfold calP at h1
  simp only [Bool.and_eq_true, Bool.or_eq_true] at h1
  rcases h1.1.1.1.2 with h2 | h2
  · cases h2
  · exact List.mem_of_getElem? (of_decide_eq_true h2)
theorem cal_max {c idx q pl : Nat} (h : cal c idx = some (5, q, pl)) : Cond.methodLink (cn c) idx Lib.Math.max.name ∈ lw_tbl := by
  have h1 := cal_P h
  unfold calP at h1
  simp only [Bool.and_eq_true, Bool.or_eq_true] at h1
  rcases h1.1.1.2 with h2 | h2
  · cases h2
  · exact List.mem_of_getElem? (of_decide_eq_true h2)
section SND
variable {p : Program} {l : Launch} {e : Env} {R : Room} {s : State} {m : MethodId} {args : Array Value} {below : List Frame} {meth : Method} {c : Code} {cells slots : Nat} {Q : State → Prop}
variable {ad : Nat → Nat} {nu : Value} {tc : Nat → ClassId} {D : va_G} {b L : Nat} {xs : Nat → Int32} {A : Nat → Prop}
set_option maxHeartbeats 4000000 in
set_option maxRecDepth 100000 in
theorem sx_plain {mu pc len pc2 : Nat} {i : Instr} {ls ls2 : ALoc} {st st2 : List Value} {mm mm2 : AMem} {arr : Array Slot} {H : Heap} {locs : List Loc} (F : Frm p s m args c mu) (X : Wfx ad nu tc D b L xs A s) (hR : 1 ≤ R.frames ∧ 60 ≤ R.locals ∧ cells ≤ R.cells ∧ slots ≤ R.slots)
    (hs : sx (L, xs) mu i len pc ls st mm = some (.inl (pc2, ls2, st2, mm2))) (hd : decode (mtC mu) pc = .ok (i, len)) (hl : lv_has arr (mtM mu) (lav ad nu ls)) (hn : ls.length = mtM mu) (hP : va_P D vwCl (wsO ad tc mm) H) (hS : va_S A s.heap H locs)
    (kk : ∀ (H1 : Heap) (locs1 : List Loc) (arr1 : Array Slot), lv_has arr1 (mtM mu) (lav ad nu ls2) → ls2.length = mtM mu → va_P D vwCl (wsO ad tc mm2) H1 → va_S A s.heap H1 locs1 → W p l e R s m args below meth c H1 locs1 cells slots Q (F0 m pc2 arr1 (st2.map (tv ad nu)))) :
    W p l e R s m args below meth c H locs cells slots Q (F0 m pc arr (st.map (tv ad nu))) := by
  obtain ⟨hx, hb, hml, hown, hw⟩ := F
  obtain ⟨hnu, hinj, hA, hK, hvk, hvr, hz1, hz2, hnw, hX, hbA, hb2⟩ := X
  have hDD : ∀ mm, va_D A (wsO ad tc mm) := wsO_D hinj hA
  have hts : ∀ w ∈ lw_tbl.filter goodWord, w.before args s = true := fun w h => hw w (List.mem_filter.mp h).1 (List.mem_filter.mp h).2
  have hbl : b < s.heap.size := by
    obtain ⟨scr, h1, -⟩ := hX
    exact (Array.getElem?_eq_some_iff.mp h1).1
  have hty : ∀ t, t < 3 → ∃ ty, (tysO tc)[t]? = some (tc t, ty) := fun t ht => by
    rcases (show t = 0 ∨ t = 1 ∨ t = 2 by omega) with rfl | rfl | rfl <;> exact ⟨_, rfl⟩
  cases i
  case iconst n =>
    obtain ⟨rfl, gs⟩ := ifN hs
    obtain ⟨rfl, rfl, rfl, rfl⟩ := nx_inj gs
    exact lv_iconst hx hb hd rfl (kk _ _ _ hl hn hP hS)
  case bipush n =>
    obtain ⟨rfl, gs⟩ := ifN hs
    obtain ⟨rfl, rfl, rfl, rfl⟩ := nx_inj gs
    exact lv_bipush hx hb hd rfl (kk _ _ _ hl hn hP hS)
  case sipush n =>
    obtain ⟨rfl, gs⟩ := ifN hs
    obtain ⟨rfl, rfl, rfl, rfl⟩ := nx_inj gs
    exact lv_sipush hx hb hd rfl (kk _ _ _ hl hn hP hS)
  case lconst n =>
    obtain ⟨rfl, gs⟩ := ifN hs
    obtain ⟨rfl, rfl, rfl, rfl⟩ := nx_inj gs
    exact lv_lconst hx hb hd rfl (kk _ _ _ hl hn hP hS)
  case ldc idx =>
    obtain ⟨rfl, gs⟩ := ifN hs
    split at gs
    · rename_i v pl hc
      obtain ⟨rfl, rfl, rfl, rfl⟩ := nx_inj gs
      exact lv_ldc hx hb hown (hw _ (cst_ok hc) rfl) hd (kk _ _ _ hl hn hP hS)
    · obtain ⟨⟨hq, rfl⟩, js⟩ := ifN gs
      obtain ⟨rfl, rfl, rfl, rfl⟩ := nx_inj js
      rw [hq] at hown
      exact va_ldcS hx hb hown hvr hd (kk _ _ _ hl hn hP hS)
  case ldc_w idx =>
    obtain ⟨rfl, gs⟩ := ifN hs
    split at gs
    · rename_i v pl hc
      obtain ⟨rfl, rfl, rfl, rfl⟩ := nx_inj gs
      exact lv_ldcw hx hb hown (hw _ (cst_ok hc) rfl) hd (kk _ _ _ hl hn hP hS)
    · cases gs
  case ldc2_w idx =>
    obtain ⟨rfl, gs⟩ := ifN hs
    split at gs
    · rename_i v pl hc
      obtain ⟨rfl, rfl, rfl, rfl⟩ := nx_inj gs
      exact lv_ldc2 hx hb hown (hw _ (csl_ok hc) rfl) hd (kk _ _ _ hl hn hP hS)
    · cases gs
  case iload_n k =>
    obtain ⟨rfl, gs⟩ := ifN hs
    obtain ⟨x, hk, rfl, rfl, rfl, rfl⟩ := sxA_i gs
    exact lv_iload_n hx hb hd rfl (lv_at0 hl hk) (kk _ _ _ hl hn hP hS)
  case iload k =>
    obtain ⟨rfl, gs⟩ := ifN hs
    obtain ⟨x, hk, rfl, rfl, rfl, rfl⟩ := sxA_i gs
    exact lv_iload hx hb hd (lv_at0 hl hk) (kk _ _ _ hl hn hP hS)
  case lload_n k =>
    obtain ⟨rfl, gs⟩ := ifN hs
    obtain ⟨x, hk, rfl, rfl, rfl, rfl⟩ := sxA_l gs
    exact lv_lload_n hx hb hd rfl (lv_at0 hl hk) (kk _ _ _ hl hn hP hS)
  case lload k =>
    obtain ⟨rfl, gs⟩ := ifN hs
    obtain ⟨x, hk, rfl, rfl, rfl, rfl⟩ := sxA_l gs
    exact lv_lload hx hb hd (lv_at0 hl hk) (kk _ _ _ hl hn hP hS)
  case aload_n k =>
    obtain ⟨rfl, gs⟩ := ifN hs
    obtain ⟨x, hk, rfl, rfl, rfl, rfl⟩ := sxA_r gs
    exact lv_aload_n hx hb hd rfl (lv_at0 hl hk) (kk _ _ _ hl hn hP hS)
  case aload k =>
    obtain ⟨rfl, gs⟩ := ifN hs
    obtain ⟨x, hk, rfl, rfl, rfl, rfl⟩ := sxA_r gs
    exact lv_aload hx hb hd (lv_at0 hl hk) (kk _ _ _ hl hn hP hS)
  case istore_n k =>
    obtain ⟨rfl, gs⟩ := ifN hs
    split at gs
    · obtain ⟨hk, hp, rfl, rfl, rfl, rfl⟩ := sxS_inv gs
      exact lv_istore_n hx hb hd rfl hl (hn ▸ hk) rfl (fun arr' hl' => kk _ _ _ (lav_set hnu hk hp hl') (by rw [lset_len, hn]) hP hS)
    · cases gs
  case istore k =>
    obtain ⟨rfl, gs⟩ := ifN hs
    split at gs
    · obtain ⟨hk, hp, rfl, rfl, rfl, rfl⟩ := sxS_inv gs
      exact lv_istore hx hb hd hl (hn ▸ hk) rfl (fun arr' hl' => kk _ _ _ (lav_set hnu hk hp hl') (by rw [lset_len, hn]) hP hS)
    · cases gs
  case astore_n k =>
    obtain ⟨rfl, gs⟩ := ifN hs
    split at gs
    · obtain ⟨hk, hp, rfl, rfl, rfl, rfl⟩ := sxS_inv gs
      exact lv_astore_n hx hb hd rfl hl (hn ▸ hk) rfl (fun arr' hl' => kk _ _ _ (lav_set hnu hk hp hl') (by rw [lset_len, hn]) hP hS)
    · cases gs
  case astore k =>
    obtain ⟨rfl, gs⟩ := ifN hs
    split at gs
    · obtain ⟨hk, hp, rfl, rfl, rfl, rfl⟩ := sxS_inv gs
      exact lv_astore hx hb hd hl (hn ▸ hk) rfl (fun arr' hl' => kk _ _ _ (lav_set hnu hk hp hl') (by rw [lset_len, hn]) hP hS)
    · cases gs
  case lstore_n k =>
    obtain ⟨rfl, gs⟩ := ifN hs
    split at gs
    · obtain ⟨hk, hp, rfl, rfl, rfl, rfl⟩ := sxS2_inv gs
      exact lv_lstore_n hx hb hd rfl hl (hn ▸ hk) rfl (fun arr' hl' => kk _ _ _ (lav_set2 hnu hk hp hl') (by rw [lset_len, lset_len, hn]) hP hS)
    · cases gs
  case lstore k =>
    obtain ⟨rfl, gs⟩ := ifN hs
    split at gs
    · obtain ⟨hk, hp, rfl, rfl, rfl, rfl⟩ := sxS2_inv gs
      exact lv_lstore hx hb hd hl (hn ▸ hk) rfl (fun arr' hl' => kk _ _ _ (lav_set2 hnu hk hp hl') (by rw [lset_len, lset_len, hn]) hP hS)
    · cases gs
  case iinc k n =>
    obtain ⟨rfl, gs⟩ := ifN hs
    split at gs
    · rename_i x hx0
      obtain ⟨hk, hp, rfl, rfl, rfl, rfl⟩ := sxS_inv gs
      obtain ⟨k', hk'⟩ := lav_at (ad := ad) (nu := nu) hx0
      exact lv_iinc hx hb hd hl hk' rfl (hn ▸ hk) rfl (fun arr' hl' => kk _ _ _ (lav_set (v := .int (x + Int32.ofInt n)) hnu hk hp hl') (by rw [lset_len, hn]) hP hS)
    · cases gs
  case iadd =>
    obtain ⟨rfl, gs⟩ := ifN hs
    split at gs
    · obtain ⟨rfl, rfl, rfl, rfl⟩ := nx_inj gs
      exact lv_iadd hx hb hd (kk _ _ _ hl hn hP hS)
    · cases gs
  case isub =>
    obtain ⟨rfl, gs⟩ := ifN hs
    split at gs
    · obtain ⟨rfl, rfl, rfl, rfl⟩ := nx_inj gs
      exact lv_isub hx hb hd (kk _ _ _ hl hn hP hS)
    · cases gs
  case imul =>
    obtain ⟨rfl, gs⟩ := ifN hs
    split at gs
    · obtain ⟨rfl, rfl, rfl, rfl⟩ := nx_inj gs
      exact lv_imul hx hb hd (kk _ _ _ hl hn hP hS)
    · cases gs
  case iand =>
    obtain ⟨rfl, gs⟩ := ifN hs
    split at gs
    · obtain ⟨rfl, rfl, rfl, rfl⟩ := nx_inj gs
      exact lv_iand hx hb hd (kk _ _ _ hl hn hP hS)
    · cases gs
  case ior =>
    obtain ⟨rfl, gs⟩ := ifN hs
    split at gs
    · obtain ⟨rfl, rfl, rfl, rfl⟩ := nx_inj gs
      exact lv_ior hx hb hd (kk _ _ _ hl hn hP hS)
    · cases gs
  case ixor =>
    obtain ⟨rfl, gs⟩ := ifN hs
    split at gs
    · obtain ⟨rfl, rfl, rfl, rfl⟩ := nx_inj gs
      exact lv_ixor hx hb hd (kk _ _ _ hl hn hP hS)
    · cases gs
  case ishl =>
    obtain ⟨rfl, gs⟩ := ifN hs
    split at gs
    · obtain ⟨rfl, rfl, rfl, rfl⟩ := nx_inj gs
      exact lv_ishl hx hb hd (kk _ _ _ hl hn hP hS)
    · cases gs
  case ishr =>
    obtain ⟨rfl, gs⟩ := ifN hs
    split at gs
    · obtain ⟨rfl, rfl, rfl, rfl⟩ := nx_inj gs
      exact lv_ishr hx hb hd (kk _ _ _ hl hn hP hS)
    · cases gs
  case ladd =>
    obtain ⟨rfl, gs⟩ := ifN hs
    split at gs
    · obtain ⟨rfl, rfl, rfl, rfl⟩ := nx_inj gs
      exact lv_ladd hx hb hd (kk _ _ _ hl hn hP hS)
    · cases gs
  case lsub =>
    obtain ⟨rfl, gs⟩ := ifN hs
    split at gs
    · obtain ⟨rfl, rfl, rfl, rfl⟩ := nx_inj gs
      exact lv_lsub hx hb hd (kk _ _ _ hl hn hP hS)
    · cases gs
  case lmul =>
    obtain ⟨rfl, gs⟩ := ifN hs
    split at gs
    · obtain ⟨rfl, rfl, rfl, rfl⟩ := nx_inj gs
      exact lv_lmul hx hb hd (kk _ _ _ hl hn hP hS)
    · cases gs
  case iushr =>
    obtain ⟨rfl, gs⟩ := ifN hs
    split at gs
    · obtain ⟨rfl, rfl, rfl, rfl⟩ := nx_inj gs
      exact lv_iushr hx hb hd rfl (kk _ _ _ hl hn hP hS)
    · cases gs
  case lshl =>
    obtain ⟨rfl, gs⟩ := ifN hs
    split at gs
    · obtain ⟨rfl, rfl, rfl, rfl⟩ := nx_inj gs
      exact lv_lshl hx hb hd rfl (kk _ _ _ hl hn hP hS)
    · cases gs
  case i2l =>
    obtain ⟨rfl, gs⟩ := ifN hs
    split at gs
    · obtain ⟨rfl, rfl, rfl, rfl⟩ := nx_inj gs
      exact lv_i2l hx hb hd rfl (kk _ _ _ hl hn hP hS)
    · cases gs
  case i2b =>
    obtain ⟨rfl, gs⟩ := ifN hs
    split at gs
    · obtain ⟨rfl, rfl, rfl, rfl⟩ := nx_inj gs
      exact lv_i2b hx hb hd rfl (kk _ _ _ hl hn hP hS)
    · cases gs
  case i2s =>
    obtain ⟨rfl, gs⟩ := ifN hs
    split at gs
    · obtain ⟨rfl, rfl, rfl, rfl⟩ := nx_inj gs
      exact lv_i2s hx hb hd rfl (kk _ _ _ hl hn hP hS)
    · cases gs
  case i2c =>
    obtain ⟨rfl, gs⟩ := ifN hs
    split at gs
    · obtain ⟨rfl, rfl, rfl, rfl⟩ := nx_inj gs
      exact lv_i2c hx hb hd rfl (kk _ _ _ hl hn hP hS)
    · cases gs
  case idiv =>
    obtain ⟨rfl, gs⟩ := ifN hs
    split at gs
    · obtain ⟨hne, js⟩ := ifNn gs
      obtain ⟨rfl, rfl, rfl, rfl⟩ := nx_inj js
      exact lv_idiv hx hb hd hne (kk _ _ _ hl hn hP hS)
    · cases gs
  case irem =>
    obtain ⟨rfl, gs⟩ := ifN hs
    split at gs
    · obtain ⟨hne, js⟩ := ifNn gs
      obtain ⟨rfl, rfl, rfl, rfl⟩ := nx_inj js
      exact lv_irem hx hb hd hne (kk _ _ _ hl hn hP hS)
    · cases gs
  case ldiv =>
    obtain ⟨rfl, gs⟩ := ifN hs
    split at gs
    · obtain ⟨hne, js⟩ := ifNn gs
      obtain ⟨rfl, rfl, rfl, rfl⟩ := nx_inj js
      exact lv_ldiv hx hb hd hne (kk _ _ _ hl hn hP hS)
    · cases gs
  case lrem =>
    obtain ⟨rfl, gs⟩ := ifN hs
    split at gs
    · obtain ⟨hne, js⟩ := ifNn gs
      obtain ⟨rfl, rfl, rfl, rfl⟩ := nx_inj js
      exact lv_lrem hx hb hd hne (kk _ _ _ hl hn hP hS)
    · cases gs
  case lcmp =>
    obtain ⟨rfl, gs⟩ := ifN hs
    split at gs
    · obtain ⟨rfl, rfl, rfl, rfl⟩ := nx_inj gs
      exact W.lcmp hx hb hd (kk _ _ _ hl hn hP hS)
    · cases gs
  case dup =>
    obtain ⟨rfl, gs⟩ := ifN hs
    split at gs
    · obtain ⟨rfl, rfl, rfl, rfl⟩ := nx_inj gs
      exact lv_dup hx hb hd rfl (kk _ _ _ hl hn hP hS)
    · obtain ⟨rfl, rfl, rfl, rfl⟩ := nx_inj gs
      exact lv_dup hx hb hd rfl (kk _ _ _ hl hn hP hS)
    · cases gs
  case dup2 =>
    obtain ⟨rfl, gs⟩ := ifN hs
    split at gs
    · obtain ⟨rfl, rfl, rfl, rfl⟩ := nx_inj gs
      exact lv_dup2_2 hx hb hd rfl (kk _ _ _ hl hn hP hS)
    · obtain ⟨rfl, rfl, rfl, rfl⟩ := nx_inj gs
      exact lv_dup2_11 hx hb hd rfl rfl (kk _ _ _ hl hn hP hS)
    · cases gs
  case pop =>
    obtain ⟨rfl, gs⟩ := ifN hs
    split at gs
    · obtain ⟨rfl, rfl, rfl, rfl⟩ := nx_inj gs
      exact lv_pop hx hb hd rfl (kk _ _ _ hl hn hP hS)
    · cases gs
  case ifCond cd off =>
    obtain ⟨rfl, gs⟩ := ifN hs
    split at gs
    · rename_i a st t hj
      obtain ⟨rfl, rfl, rfl, rfl⟩ := nx_inj gs
      have kc := kk _ _ _ hl hn hP hS
      cases cd
      · refine lv_if_eq hx hb hd (jmp_ok hj) (fun h => ?_) (fun h => ?_)
        · simpa [icmpB, h] using kc
        · simpa [icmpB, h] using kc
      · refine lv_if_ne hx hb hd (jmp_ok hj) (fun h => ?_) (fun h => ?_)
        · simpa [icmpB, h] using kc
        · simpa [icmpB, h] using kc
      · refine lv_if_lt hx hb hd (jmp_ok hj) (fun h => ?_) (fun h => ?_)
        · simpa [icmpB, h] using kc
        · simpa [icmpB, h] using kc
      · refine lv_if_ge hx hb hd (jmp_ok hj) (fun h => ?_) (fun h => ?_)
        · simpa [icmpB, h] using kc
        · simpa [icmpB, h] using kc
      · refine lv_if_gt hx hb hd (jmp_ok hj) (fun h => ?_) (fun h => ?_)
        · simpa [icmpB, h] using kc
        · simpa [icmpB, h] using kc
      · refine lv_if_le hx hb hd (jmp_ok hj) (fun h => ?_) (fun h => ?_)
        · simpa [icmpB, h] using kc
        · simpa [icmpB, h] using kc
    · cases gs
  case if_icmp cd off =>
    obtain ⟨rfl, gs⟩ := ifN hs
    split at gs
    · rename_i b a st t hj
      obtain ⟨rfl, rfl, rfl, rfl⟩ := nx_inj gs
      have kc := kk _ _ _ hl hn hP hS
      cases cd
      · refine lv_icmp_eq hx hb hd (jmp_ok hj) (fun h => ?_) (fun h => ?_)
        · simpa [icmpB, h] using kc
        · simpa [icmpB, h] using kc
      · refine lv_icmp_ne hx hb hd (jmp_ok hj) (fun h => ?_) (fun h => ?_)
        · simpa [icmpB, h] using kc
        · simpa [icmpB, h] using kc
      · refine lv_icmp_lt hx hb hd (jmp_ok hj) (fun h => ?_) (fun h => ?_)
        · simpa [icmpB, h] using kc
        · simpa [icmpB, h] using kc
      · refine lv_icmp_ge hx hb hd (jmp_ok hj) (fun h => ?_) (fun h => ?_)
        · simpa [icmpB, h] using kc
        · simpa [icmpB, h] using kc
      · refine lv_icmp_gt hx hb hd (jmp_ok hj) (fun h => ?_) (fun h => ?_)
        · simpa [icmpB, h] using kc
        · simpa [icmpB, h] using kc
      · refine lv_icmp_le hx hb hd (jmp_ok hj) (fun h => ?_) (fun h => ?_)
        · simpa [icmpB, h] using kc
        · simpa [icmpB, h] using kc
    · cases gs
  case goto off =>
    obtain ⟨rfl, gs⟩ := ifN hs
    split at gs
    · rename_i t hj
      obtain ⟨rfl, rfl, rfl, rfl⟩ := nx_inj gs
      exact lv_goto hx hb hd (jmp_ok hj) (kk _ _ _ hl hn hP hS)
    · cases gs
  case tableswitch dflt lo hi offs =>
    simp only [sx] at hs
    split at hs
    · rename_i x st
      split at hs
      · rename_i t hj
        obtain ⟨hc, hs⟩ := ifN hs
        obtain ⟨rfl, rfl, rfl, rfl⟩ := nx_inj hs
        by_cases h1 : x.toInt < lo ∨ hi < x.toInt
        · rw [if_pos h1] at hj
          exact lv_tableOut hx hb hd h1 (jmp_ok hj) (kk _ _ _ hl hn hP hS)
        · rw [if_neg h1] at hj
          have h2 : (x.toInt - lo).toNat < offs.size := by
            rcases hc with h | h | h
            · exact absurd (Or.inl h) h1
            · exact absurd (Or.inr h) h1
            · exact h
          have h3 : offs[(x.toInt - lo).toNat]? = some offs[(x.toInt - lo).toNat] := Array.getElem?_eq_getElem h2
          rw [h3] at hj
          exact lv_tableIn hx hb hd (fun z => h1 (Or.inl z)) (fun z => h1 (Or.inr z)) h3 (jmp_ok hj) (kk _ _ _ hl hn hP hS)
      · cases hs
    · cases hs
  case lookupswitch dflt ps =>
    simp only [sx] at hs
    split at hs
    · rename_i x st
      split at hs
      · rename_i t hj
        obtain ⟨hc, hs⟩ := ifN hs
        obtain ⟨rfl, rfl, rfl, rfl⟩ := nx_inj hs
        exact lv_lookup hx hb hd hc rfl (jmp_ok hj) (kk _ _ _ hl hn hP hS)
      · cases hs
    · cases hs
  case iaload =>
    obtain ⟨rfl, gs⟩ := ifN hs
    split at gs
    · rename_i i a st
      split at gs
      · rename_i n h
        obtain ⟨hi, js⟩ := ifN gs
        obtain ⟨rfl, rfl, rfl, rfl⟩ := nx_inj js
        exact va_iald hx hb hK hP a 0 (ws_arr h) rfl (inB_in hi) hd (kk _ _ _ hl hn hP hS)
      · rename_i n h
        obtain ⟨hi, js⟩ := ifN gs
        obtain ⟨rfl, rfl, rfl, rfl⟩ := nx_inj js
        have ha := lay_scr h
        subst ha
        subst hb2
        exact va_sld hx hb hX hbl hbA hS (inB_in hi) hd (kk _ _ _ hl hn hP hS)
      · cases gs
    · cases gs
  case caload =>
    obtain ⟨rfl, gs⟩ := ifN hs
    split at gs
    · rename_i i a st
      split at gs
      · rename_i n h
        obtain ⟨hi, js⟩ := ifN gs
        obtain ⟨rfl, rfl, rfl, rfl⟩ := nx_inj js
        exact va_cald hx hb hK hP a 1 (ws_arr h) rfl (inB_in hi) hd (kk _ _ _ hl hn hP hS)
      · cases gs
    · cases gs
  case baload =>
    obtain ⟨rfl, gs⟩ := ifN hs
    split at gs
    · rename_i i a st
      split at gs
      · rename_i n h
        obtain ⟨hi, js⟩ := ifN gs
        obtain ⟨rfl, rfl, rfl, rfl⟩ := nx_inj js
        exact va_zald hx hb hK hP a 2 (ws_arr h) rfl (inB_in hi) hd (kk _ _ _ hl hn hP hS)
      · rename_i k n h
        obtain ⟨hi, js⟩ := ifN gs
        obtain ⟨rfl, rfl, rfl, rfl⟩ := nx_inj js
        obtain ⟨hk, rfl, rfl⟩ := lay_byt h
        rw [← str_len k hk] at hi
        exact va_tb hx hb (hvk.1 k hk).2.2.2 hS (inB_in hi) rfl hd (kk _ _ _ hl hn hP hS)
      · cases gs
    · cases gs
  case aaload =>
    obtain ⟨rfl, gs⟩ := ifN hs
    split at gs
    · rename_i i a st
      split at gs
      · rename_i t n h
        obtain ⟨hi, js⟩ := ifN gs
        split at js
        · rename_i r hr
          obtain ⟨rfl, rfl, rfl, rfl⟩ := nx_inj js
          have kc := kk _ _ _ hl hn hP hS
          have e : va_rf ((rf a i.toNatClampNeg).map ad) = .ref (ad r) := by rw [hr]; rfl
          rcases (lay_ref h).2 with rfl | rfl
          · exact va_aldq hx hb hK hP a 3 (ws_ref h) rfl (inB_in hi) hd (by rw [e]; exact kc)
          · exact va_aldq hx hb hK hP a 4 (ws_ref h) rfl (inB_in hi) hd (by rw [e]; exact kc)
        · cases js
      · cases gs
    · cases gs
  case arraylength =>
    obtain ⟨rfl, gs⟩ := ifN hs
    split at gs
    · rename_i a st
      split at gs
      · rename_i t n h
        obtain ⟨rfl, rfl, rfl, rfl⟩ := nx_inj gs
        obtain ⟨ty, ht⟩ := hty t (lay_arr h).2
        exact va_alen hx hb hK hP a t (ws_arr h) ht rfl hd (kk _ _ _ hl hn hP hS)
      · rename_i t n h
        obtain ⟨rfl, rfl, rfl, rfl⟩ := nx_inj gs
        rcases (lay_ref h).2 with rfl | rfl
        · exact va_alen hx hb hK hP a 3 (ws_ref h) rfl rfl hd (kk _ _ _ hl hn hP hS)
        · exact va_alen hx hb hK hP a 4 (ws_ref h) rfl rfl hd (kk _ _ _ hl hn hP hS)
      · rename_i k n h
        obtain ⟨rfl, rfl, rfl, rfl⟩ := nx_inj gs
        obtain ⟨hk, rfl, rfl⟩ := lay_byt h
        exact va_tlen hx hb (hvk.1 k hk).2.2.2 hS (by rw [str_len k hk]; rfl) hd (kk _ _ _ hl hn hP hS)
      · rename_i k n h
        obtain ⟨rfl, rfl, rfl, rfl⟩ := nx_inj gs
        have ha := lay_scr h
        subst ha
        subst hb2
        exact va_slen hx hb hX hbl hbA hS hd (kk _ _ _ hl hn hP hS)
      · cases gs
    · cases gs
  case iastore =>
    obtain ⟨rfl, gs⟩ := ifN hs
    split at gs
    · rename_i x i a st
      split at gs
      · rename_i n h
        obtain ⟨hi, js⟩ := ifN gs
        obtain ⟨rfl, rfl, rfl, rfl⟩ := nx_inj js
        exact va_iast hx hb hK hP (hDD _) hS a 0 (ws_arr h) rfl (inB_in hi) hd (fun H1 locs1 hP1 _ hS1 => kk _ _ _ hl hn (by rw [← wsO_arr h]; exact hP1) hS1)
      · cases gs
    · cases gs
  case castore =>
    obtain ⟨rfl, gs⟩ := ifN hs
    split at gs
    · rename_i x i a st
      split at gs
      · rename_i n h
        obtain ⟨hi, js⟩ := ifN gs
        obtain ⟨rfl, rfl, rfl, rfl⟩ := nx_inj js
        exact va_cast hx hb hK hP (hDD _) hS a 1 (ws_arr h) rfl (inB_in hi) hd (fun H1 locs1 hP1 _ hS1 => kk _ _ _ hl hn (by rw [← wsO_arr h]; exact hP1) hS1)
      · cases gs
    · cases gs
  case bastore =>
    obtain ⟨rfl, gs⟩ := ifN hs
    split at gs
    · rename_i x i a st
      split at gs
      · rename_i n h
        obtain ⟨hi, js⟩ := ifN gs
        obtain ⟨rfl, rfl, rfl, rfl⟩ := nx_inj js
        exact va_zast hx hb hK hP (hDD _) hS a 2 (ws_arr h) rfl (inB_in hi) hd (fun H1 locs1 hP1 _ hS1 => kk _ _ _ hl hn (by rw [← wsO_arr h]; exact hP1) hS1)
      · cases gs
    · cases gs
  case getfield idx =>
    obtain ⟨rfl, gs⟩ := ifN hs
    split at gs
    · rename_i a st ci j pl hf
      obtain ⟨hlk, hj7⟩ := fld_ok hf
      split at gs
      · rename_i c0 n h
        obtain ⟨⟨rfl, hj⟩, js⟩ := ifN gs
        obtain ⟨rfl, rfl, rfl, rfl⟩ := nx_inj js
        have hc := (lay_obj h).2
        have hn0 := lay_clN h
        have e7 : ¬ c0 = 7 := by omega
        simp only [fldW, if_neg e7] at hlk
        refine va_get (C := clR c0) (T := fTT c0) (N := clN c0) (ref := (fTT c0 j).1) (index := idx) (v := tv ad nu (fvg a j (mm2 a))) hx hb hts (lay_in hc) hown hK hP a (ws_obj h) (cl_at c0 hc) j (by omega) (hw _ hlk rfl) (fun _ h9 => h9) ?_ hd (kk _ _ _ hl hn hP hS)
        rw [List.getElem?_map, List.getElem?_range hj, Option.map_some, tv_fvg]
      · rename_i k n h
        obtain ⟨rfl, js⟩ := ifN gs
        obtain ⟨rfl, rfl, rfl, rfl⟩ := nx_inj js
        obtain ⟨hk, rfl⟩ := lay_str h
        have kc := kk _ _ _ hl hn hP hS
        by_cases hj : j = 0
        · subst hj
          refine vk_getf (ref := "java/lang/String") (index := idx) (v := .ref (ad (105 + 2 * k))) hx hb (hvk.1 k hk).2.2.1 hS hown (hw _ hlk rfl) (fun _ h9 => h9) hd ?_
          rw [show 105 + 2 * k = 104 + 2 * k + 1 by omega]
          exact kc
        · simp only [fldW, if_neg hj] at hlk
          rw [if_neg hj] at kc
          exact vk_getf (ref := "java/lang/String") (index := idx) (v := .int 0) hx hb (hvk.1 k hk).2.1 hS hown (hw _ hlk rfl) (fun _ h9 => h9) hd kc
      · cases gs
    · cases gs
  case putfield idx =>
    obtain ⟨rfl, gs⟩ := ifN hs
    split at gs
    · rename_i x a st ci j pl hf
      obtain ⟨hlk, hj7⟩ := fld_ok hf
      split at gs
      · rename_i c0 n h
        obtain ⟨⟨rfl, hj, hr, hok⟩, js⟩ := ifN gs
        obtain ⟨rfl, rfl, rfl, rfl⟩ := nx_inj js
        have hc := (lay_obj h).2
        have hn0 := lay_clN h
        have e7 : ¬ c0 = 7 := by omega
        simp only [fldW, if_neg e7] at hlk
        unfold putOk at hok
        rw [Bool.and_eq_true, Bool.and_eq_true, decide_eq_true_eq, Bool.not_eq_true'] at hok
        exact va_put (C := clR c0) (T := fTT c0) (N := clN c0) (ref := (fTT c0 j).1) (index := idx) (ty := fty c0 j) (v := .int x) hx hb hts (lay_in hc) (fty c0) (fTT_ty c0 hc).1 (fTT_ty c0 hc).2 hown hK hP (hDD _) hS a (ws_obj h) (cl_at c0 hc) j (by omega) (hw _ hlk rfl) (fun _ h9 => h9) hok.2 ((fTT_ty c0 hc).1 j (by omega)) hok.1.1 hok.1.2 (by simpa using hj) hd (fun H1 locs1 hP1 _ hS1 => kk _ _ _ hl hn (by rw [← wsO_fld h hr]; exact hP1) hS1)
      · cases gs
    · cases gs
  case getstatic idx =>
    obtain ⟨rfl, gs⟩ := ifN hs
    obtain ⟨h7, gs2⟩ := ifN gs
    rw [h7] at hown
    by_cases h1 : idx = 38
    · rw [if_pos h1] at gs2
      subst h1
      obtain ⟨rfl, rfl, rfl, rfl⟩ := nx_inj gs2
      exact va_gets (ref := "java/lang/String") hx hb hz1 hS hown (hw _ (List.mem_of_getElem? gs_words.1) rfl) (fun _ h9 => h9) hd (kk _ _ _ hl hn hP hS)
    · rw [if_neg h1] at gs2
      obtain ⟨h2, gs3⟩ := ifN gs2
      subst h2
      obtain ⟨rfl, rfl, rfl, rfl⟩ := nx_inj gs3
      exact va_gets (ref := "jdk/internal/util/Preconditions") hx hb hz2 hS hown (hw _ (List.mem_of_getElem? gs_words.2) rfl) (fun _ h9 => h9) hd (kk _ _ _ hl hn hP hS)
  case invokestatic idx =>
    obtain ⟨rfl, gs⟩ := ifN hs
    split at gs
    · rename_i q pl hcal
      split at gs
      · rename_i n dp b0 sp a0 st
        split at gs
        · rename_i n0 n1 h0 h1
          obtain ⟨⟨g1, g2, g3, g4, g5, g6⟩, js⟩ := ifN gs
          obtain ⟨rfl, rfl, rfl, rfl⟩ := nx_inj js
          have hc8 := cat8_ok hnu ad g6
          exact va_copyi hx hb (by rw [hml]; exact hl.1.symm) hown (hw _ (cal_copy hcal) rfl) (hw _ (List.mem_of_getElem? sys_words.1) rfl) (hw _ (List.mem_of_getElem? sys_words.2.1) rfl) (hw _ (List.mem_of_getElem? sys_words.2.2) rfl) hK hP (hDD _) hS a0 b0 0 0 (ws_arr h0) (ws_arr h1) rfl rfl rfl g1 g2 g3 g4 g5 (fun _ _ => rfl) hR.1 (by have := nfw; omega) hd (fun H1 locs1 hP1 _ hS1 => kk _ _ _ hl hn (by rw [← wsO_arrA h1]; exact hP1) hS1)
        · cases gs
      · cases gs
    · rename_i q pl hcal
      split at gs
      · rename_i y x st
        obtain ⟨g6, js⟩ := ifN gs
        obtain ⟨rfl, rfl, rfl, rfl⟩ := nx_inj js
        have hc8 := cat8_ok hnu ad g6
        exact va_mmin hx hb (by rw [hml]; exact hl.1.symm) hown (hw _ (cal_min hcal) rfl) (hw _ (List.mem_of_getElem? math_words.1) rfl) (hw _ (List.mem_of_getElem? math_words.2.2) rfl) (hw _ wd_min rfl) hR.1 (by omega) hR.2.2.1 hR.2.2.2 hd (kk _ _ _ hl hn hP hS)
      · cases gs
    · rename_i q pl hcal
      split at gs
      · rename_i y x st
        obtain ⟨g6, js⟩ := ifN gs
        obtain ⟨rfl, rfl, rfl, rfl⟩ := nx_inj js
        have hc8 := cat8_ok hnu ad g6
        exact va_mmax hx hb (by rw [hml]; exact hl.1.symm) hown (hw _ (cal_max hcal) rfl) (hw _ (List.mem_of_getElem? math_words.2.1) rfl) (hw _ (List.mem_of_getElem? math_words.2.2) rfl) (hw _ wd_max rfl) hR.1 (by omega) hR.2.2.1 hR.2.2.2 hd (kk _ _ _ hl hn hP hS)
      · cases gs
    · cases gs
    · obtain ⟨-, js⟩ := ifN gs
      cases js
    · cases gs
  case invokevirtual idx =>
    obtain ⟨rfl, gs⟩ := ifN hs
    split at gs
    · split at gs
      · obtain ⟨-, js⟩ := ifN gs
        cases js
      · cases gs
    · cases gs
  case ireturn =>
    obtain ⟨rfl, gs⟩ := ifN hs
    split at gs
    · obtain ⟨-, js⟩ := ifN gs
      cases js
    · cases gs
  case lreturn =>
    obtain ⟨rfl, gs⟩ := ifN hs
    split at gs
    · cases gs
    · cases gs
  case areturn =>
    obtain ⟨rfl, gs⟩ := ifN hs
    split at gs
    · cases gs
    · cases gs
  case return_ =>
    obtain ⟨rfl, gs⟩ := ifN hs
    split at gs
    · cases gs
    · cases gs
  all_goals exact absurd hs (by intro h; cases h)
end SND
