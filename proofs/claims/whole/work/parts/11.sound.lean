/-! calls and returns; a run of the pure machine is a contract -/
theorem nx_no {a : Nat} {b : ALoc} {c : List Value} {d : AMem} {x} : nx a b c d ≠ some (.inr x) := by
  unfold nx
  intro h
  cases h
theorem sxA_no {mu op k pc : Nat} {ls : ALoc} {st : List Value} {m : AMem} {x} : sxA mu op k ls st m pc ≠ some (.inr x) := by
  unfold sxA nx
  repeat' split
  all_goals (intro h; cases h)
theorem sxS_no {mu k pc : Nat} {v : Value} {ls : ALoc} {st : List Value} {m : AMem} {x} : sxS mu k ls v st m pc ≠ some (.inr x) := by
  unfold sxS nx
  split
  all_goals (intro h; cases h)
theorem sxS2_no {mu k pc : Nat} {v : Value} {ls : ALoc} {st : List Value} {m : AMem} {x} : sxS2 mu k ls v st m pc ≠ some (.inr x) := by
  unfold sxS2 nx
  split
  all_goals (intro h; cases h)
def plainI : Instr → Bool
  | .invokestatic _ => false
  | .invokevirtual _ => false
  | .ireturn => false
  | .lreturn => false
  | .areturn => false
  | .return_ => false
  | _ => true
set_option maxHeartbeats 4000000 in
theorem sx_pl {S : AScr} {mu pc len : Nat} {i : Instr} {ls : ALoc} {st : List Value} {mm : AMem} (hi : plainI i = true) {x} : sx S mu i len pc ls st mm ≠ some (.inr x) := by
  cases i
  all_goals first
    | (cases hi; done)
    | (intro h; cases h; done)
    | (simp only [sx]
       repeat' split
       all_goals first
         | exact nx_no
         | exact sxA_no
         | exact sxS_no
         | exact sxS2_no
         | (intro h; cases h))
theorem sx_ret {S : AScr} {mu pc len : Nat} {i : Instr} {ls : ALoc} {st : List Value} {mm : AMem} {r : Option Value} (hs : sx S mu i len pc ls st mm = some (.inr (.inl r))) :
    (i = .ireturn ∧ len = 1 ∧ ∃ x ty, st = [.int x] ∧ mtR mu = some ty ∧ narrow ty (.int x) = .int x ∧ r = some (.int x)) ∨ (i = .lreturn ∧ len = 1 ∧ ∃ x, st = [.long x] ∧ mtR mu = some .long ∧ r = some (.long x)) ∨ (i = .areturn ∧ len = 1 ∧ ∃ x nm, st = [.ref x] ∧ mtR mu = some (.object nm) ∧ r = some (.ref x)) ∨ (i = .return_ ∧ len = 1 ∧ st = [] ∧ mtR mu = none ∧ r = none) := by
  cases i
  case ireturn =>
    obtain ⟨rfl, gs⟩ := ifN hs
    split at gs
    · rename_i x ty hr
      obtain ⟨h1, js⟩ := ifN gs
      cases js
      exact Or.inl ⟨rfl, rfl, x, ty, rfl, hr, h1, rfl⟩
    · cases gs
  case lreturn =>
    obtain ⟨rfl, gs⟩ := ifN hs
    split at gs
    · rename_i x hr
      cases gs
      exact Or.inr (Or.inl ⟨rfl, rfl, x, rfl, hr, rfl⟩)
    · cases gs
  case areturn =>
    obtain ⟨rfl, gs⟩ := ifN hs
    split at gs
    · rename_i x nm hr
      cases gs
      exact Or.inr (Or.inr (Or.inl ⟨rfl, rfl, x, nm, rfl, hr, rfl⟩))
    · cases gs
  case return_ =>
    obtain ⟨rfl, gs⟩ := ifN hs
    split at gs
    · rename_i hr
      cases gs
      exact Or.inr (Or.inr (Or.inr ⟨rfl, rfl, rfl, hr, rfl⟩))
    · cases gs
  case invokestatic idx =>
    obtain ⟨rfl, gs⟩ := ifN hs
    repeat' (split at gs)
    all_goals first
      | exact absurd gs nx_no
      | (cases gs; done)
  case invokevirtual idx =>
    obtain ⟨rfl, gs⟩ := ifN hs
    repeat' (split at gs)
    all_goals (cases gs; done)
  all_goals exact absurd hs (sx_pl rfl)
theorem rev_take {α : Type} (st : List α) (n : Nat) : st = ((st.take n).reverse).reverse ++ st.drop n := by
  rw [List.reverse_reverse, List.take_append_drop]
theorem sx_call {S : AScr} {mu pc len : Nat} {i : Instr} {ls : ALoc} {st : List Value} {mm : AMem} {q : Nat} {av rest : List Value} (hs : sx S mu i len pc ls st mm = some (.inr (.inr (q, av, rest)))) :
    (∃ idx k pl, i = .invokestatic idx ∧ len = 3 ∧ cal (mtK mu) idx = some (k, q, pl) ∧ (k = 0 ∨ k = 2) ∧ st = av.reverse ++ rest ∧ av.length = mtN q ∧ cat8 rest = true ∧ argOk q av = true) ∨
    (∃ idx pl a As, i = .invokevirtual idx ∧ len = 3 ∧ cal (mtK mu) idx = some (1, q, pl) ∧ av = .ref a :: As ∧ st = As.reverse ++ .ref a :: rest ∧ As.length = mtN q ∧ rcvOk a (mtK q) = true ∧ cat8 rest = true ∧ argOk q av = true) := by
  cases i
  case invokestatic idx =>
    obtain ⟨rfl, gs⟩ := ifN hs
    split at gs
    · split at gs
      · split at gs
        · exact absurd (ifN gs).2 nx_no
        · cases gs
      · cases gs
    · split at gs
      · exact absurd (ifN gs).2 nx_no
      · cases gs
    · split at gs
      · exact absurd (ifN gs).2 nx_no
      · cases gs
    · cases gs
    · rename_i k q0 pl h3 h4 h5 h1 hcal
      obtain ⟨⟨g1, g2, g3⟩, js⟩ := ifN gs
      cases js
      refine Or.inl ⟨idx, k, pl, rfl, rfl, hcal, ?_, rev_take _ _, ?_, g2, g3⟩
      · have h := cal_P hcal
        unfold calP at h
        simp only [Bool.and_eq_true] at h
        have hk : k ≤ 5 := Nat.le_of_ble_eq_true h.1.1.1.1.2
        have e1 : ¬ k = 1 := fun z => h1 z
        have e3 : ¬ k = 3 := fun z => h3 z
        have e4 : ¬ k = 4 := fun z => h4 z
        have e5 : ¬ k = 5 := fun z => h5 z
        omega
      · simp; omega
    · cases gs
  case invokevirtual idx =>
    obtain ⟨rfl, gs⟩ := ifN hs
    split at gs
    · rename_i q0 pl hcal
      split at gs
      · rename_i a rest0 hdr
        obtain ⟨⟨g1, g2, g3, g4⟩, js⟩ := ifN gs
        cases js
        refine Or.inr ⟨idx, pl, a, _, rfl, rfl, hcal, rfl, ?_, ?_, g2, g3, g4⟩
        · rw [← hdr]
          exact rev_take _ _
        · simp; omega
      · cases gs
    · cases gs
  case ireturn =>
    obtain ⟨rfl, gs⟩ := ifN hs
    split at gs
    · obtain ⟨h1, js⟩ := ifN gs
      cases js
    · cases gs
  case lreturn =>
    obtain ⟨rfl, gs⟩ := ifN hs
    split at gs <;> cases gs
  case areturn =>
    obtain ⟨rfl, gs⟩ := ifN hs
    split at gs <;> cases gs
  case return_ =>
    obtain ⟨rfl, gs⟩ := ifN hs
    split at gs <;> cases gs
  all_goals exact absurd hs (sx_pl rfl)
/-- per method: its words -/
def wsq (q : Nat) : List Cond := Cond.code (mtY q) (mtC q) (mtM q) (mtR q) :: lw_tbl.filter goodWord
def rmf (f : Nat) : Room := { frames := f + 1, cells := 0, slots := 0, locals := 38 * f + 60 }
theorem mt_ok {q : Nat} (hq : q < 193) : ((mtQ q).1 = 1 → Cond.static (mtY q) ∈ lw_tbl) ∧ (¬ (mtQ q).1 = 1 → Cond.instanceMethod (mtY q) ∈ lw_tbl ∧ Cond.selects (mtY q).cls (mtY q) (mtY q) ∈ lw_tbl) ∧ Cond.initialized (mtY q).cls ∈ lw_tbl ∧ ((mtY q).cls ≠ "java/lang/invoke/MethodHandle" ∧ (mtY q).cls ≠ "java/lang/invoke/VarHandle") ∧ (parseMethodDescriptor (mtY q).desc).map (fun d => d.parameters.length) = some (mtN q) ∧ Jvm.plainName (mtY q).cls = true ∧ (mtY q).cls = cn (mtK q) ∧ mtM q ≤ 12 := by
  have h := List.all_eq_true.mp mt_tab q (List.mem_range.mpr hq)
  simp only [Bool.and_eq_true, decide_eq_true_eq, Bool.or_eq_true] at h
  obtain ⟨⟨⟨⟨⟨⟨⟨⟨h1, h2⟩, h3⟩, h4⟩, h5⟩, h6⟩, h7⟩, h8⟩, h9⟩ := h
  refine ⟨fun e => ?_, fun e => ⟨?_, ?_⟩, List.mem_of_getElem? h3, ⟨h4, h5⟩, h6, h7, h8, Nat.le_of_ble_eq_true h9⟩
  · rw [if_pos e] at h1
    exact List.mem_of_getElem? h1
  · rw [if_neg e] at h1
    exact List.mem_of_getElem? h1
  · rcases h2 with h2 | h2
    · exact absurd (Nat.eq_of_beq_eq_true h2) e
    · exact List.mem_of_getElem? h2
theorem wsq_good (q : Nat) (hq : q < 193) : ∀ w ∈ wsq q, w ∈ lw_tbl.filter goodWord ∧ ((w.onTables && w.keeps) = true ∨ ∃ ty, w = .arrayClass ty) := by
  intro w hw
  rcases List.mem_cons.mp hw with rfl | hw
  · exact ⟨List.mem_filter.mpr ⟨mt_code q hq, rfl⟩, Or.inl rfl⟩
  · exact ⟨hw, good_of_word (List.mem_filter.mp hw).2⟩
def calS (c : Nat) (e : Nat × Nat × Nat × Nat) : Bool := (Nat.blt 2 e.2.1) || (Nat.beq e.2.1 1 && Nat.beq (mtQ e.2.2.1).1 0) || ((! Nat.beq e.2.1 1) && Nat.beq (mtQ e.2.2.1).1 1)
theorem cal_S {c idx k q pl : Nat} (h : cal c idx = some (k, q, pl)) : calS c (idx, k, q, pl) = true := by
  have h0 : (idx, k, q, pl) ∈ calT.getD c [] := findI_mem h
  exact tab_all (tab := calT) (N := 16) (P := calS) (by decide +kernel) cal_stat h0
theorem cal_static {c idx k q pl : Nat} (h : cal c idx = some (k, q, pl)) (hk : k = 0 ∨ k = 2) : (mtQ q).1 = 1 := by
  have h1 := cal_S h
  unfold calS at h1
  rcases hk with rfl | rfl
  · exact (show Nat.beq 0 1 = false ∧ (mtQ q).1 = 1 by simpa using h1).2
  · exact (show Nat.beq 2 1 = false ∧ (mtQ q).1 = 1 by simpa using h1).2
theorem cal_inst {c idx q pl : Nat} (h : cal c idx = some (1, q, pl)) : ¬ (mtQ q).1 = 1 := by
  have h1 := cal_S h
  unfold calS at h1
  have h2 : (mtQ q).1 = 0 := by simpa using h1
  omega
def calK (c : Nat) (e : Nat × Nat × Nat × Nat) : Bool := Nat.blt 1 e.2.1 || decide (lw_tbl[e.2.2.2]? = some (.methodLink (cn c) e.1 (mtY e.2.2.1)))
theorem cal_link {c idx k q pl : Nat} (h : cal c idx = some (k, q, pl)) (hk : k < 2) : Cond.methodLink (cn c) idx (mtY q) ∈ lw_tbl := by
  have h0 : (idx, k, q, pl) ∈ calT.getD c [] := findI_mem h
  have h1 : calK c (idx, k, q, pl) = true := tab_all (tab := calT) (N := 16) (P := calK) (by decide +kernel) cal_tab h0
  unfold calK at h1
  rw [Bool.or_eq_true] at h1
  rcases h1 with h2 | h2
  · have := Nat.le_of_ble_eq_true h2
    simp only at this
    omega
  · exact List.mem_of_getElem? (of_decide_eq_true h2)
theorem cal_nest {c idx q pl : Nat} (h : cal c idx = some (2, q, pl)) : c = 2 ∧ idx = 25 ∧ q = 46 := by
  have h1 := cal_P h
  unfold calP at h1
  simp only [Bool.and_eq_true, Bool.or_eq_true] at h1
  rcases h1.1.2 with h2 | h2
  · cases h2
  · exact ⟨Nat.eq_of_beq_eq_true h2.1.1, Nat.eq_of_beq_eq_true h2.1.2, Nat.eq_of_beq_eq_true h2.2⟩
section MET
variable {p : Program} {l : Launch} {e : Env} {R : Room} {s : State} {m : MethodId} {args : Array Value} {below : List Frame} {meth : Method} {c : Code} {cells slots : Nat} {Q : State → Prop}
variable {ad : Nat → Nat} {nu : Value} {tc : Nat → ClassId} {D : va_G} {b L : Nat} {xs : Nat → Int32} {A : Nat → Prop}
def adA (ad : Nat → Nat) : Nat → Prop := fun q => ∃ k, k < 104 ∧ q = ad k
def Pcq (ad : Nat → Nat) (nu : Value) (tc : Nat → ClassId) (D : va_G) (b L : Nat) (xs : Nat → Int32) (av : List Value) (mm : AMem) : Array Value → State → Prop := va_Pc (av.map (tv ad nu)) (fun U => va_P D vwCl (wsO ad tc mm) U.heap ∧ Wfx ad nu tc D b L xs (adA ad) U)
def Qcq (ad : Nat → Nat) (nu : Value) (tc : Nat → ClassId) (D : va_G) (r : Option Value) (mm : AMem) : Array Value → State → Outcome → State → Prop := fun _ st oc t => oc = .returned (r.map (tv ad nu)) ∧ va_P D vwCl (wsO ad tc mm) t.heap ∧ va_F (adA ad) st t
theorem Wfx_call {H : Heap} {locs : List Loc} {U : State} (X : Wfx ad nu tc D b L xs A s) (hS : va_S A s.heap H locs) (hU : U.heap = H) (hW : s.WarmedH U.vm) : Wfx ad nu tc D b L xs (adA ad) U := by
  obtain ⟨hnu, hinj, hA, hK, hvk, hvr, hz1, hz2, hnw, hX, hbA, hb2⟩ := X
  have hAB : ∀ q, adA ad q → A q := fun q ⟨k, hk, e⟩ => e ▸ hA k hk
  have hbl : b < s.heap.size := by
    obtain ⟨scr, h1, -⟩ := hX
    exact (Array.getElem?_eq_some_iff.mp h1).1
  subst hU
  exact ⟨hnu, hinj, fun k hk => ⟨k, hk, rfl⟩, va_K.moved hW.alike hK, ((hvk.kept hS.2.1).narrow hAB).moved hW.alike, vk_R.warm hW hvr, ((hz1.kept hS.2.1).narrow hAB).moved hW.alike, ((hz2.kept hS.2.1).narrow hAB).moved hW.alike, va_Nw.warmM hW hnw, va_X.moved hW.alike (hX.kept (hS.2.1 b hbl hbA)), fun z => hbA (hAB b z), hb2⟩
theorem Wfx_same {s U : State} (X : Wfx ad nu tc D b L xs A s) (hh : U.heap = s.heap) (hv : U.vm = s.vm) : Wfx ad nu tc D b L xs A U := by
  obtain ⟨hnu, hinj, hA, hK, hvk, hvr, hz1, hz2, hnw, hX, hbA, hb2⟩ := X
  have hal : s.vm.Alike U.vm := by rw [hv]; exact Vm.Alike.refl s.vm
  rw [← hh] at hvk hz1 hz2 hX
  exact ⟨hnu, hinj, hA, va_K.moved hal hK, hvk.moved hal, vk_R.same hv hvr, hz1.moved hal, hz2.moved hal, va_Nw.same rfl hv.symm hnw, va_X.moved hal hX, hbA, hb2⟩
theorem Pcq_blind {av : List Value} {mm : AMem} : FrameBlind (Pcq ad nu tc D b L xs av mm) := fun a U g mk q => ⟨q.1, q.2.1, Wfx_same q.2.2 rfl rfl⟩
theorem az_call {pc : Nat} {arr : Array Slot} {H : Heap} {locs : List Loc} {st0 rest : List Value} {a : Array Value} {r : Option Value} {m2 : AMem} (hr : va_Run p l e R s m args below meth c H locs cells slots 0 0 (F0 m pc arr st0) rest (Qcq ad nu tc D r m2 a) (adA ad)) (hS : va_S A s.heap H locs) (hAB : ∀ q, adA ad q → A q)
    (kk : ∀ (H1 : Heap) (locs1 : List Loc), va_P D vwCl (wsO ad tc m2) H1 → va_S A s.heap H1 locs1 → W p l e R s m args below meth c H1 locs1 cells slots Q (F0 m (pc + 3) arr ((r.map (tv ad nu)).toList ++ rest))) : W p l e R s m args below meth c H locs cells slots Q (F0 m pc arr st0) := by
  intro T hT X
  obtain ⟨v, st₀, t, T', L, h0, X', hL, e1, e2, ⟨hv, hP, hz, hk⟩, st⟩ := hr T hT X
  cases hv
  rw [h0] at hz hk
  obtain ⟨t2, a1, b1⟩ := kk T'.heap (locs ++ L) (by rw [e1]; exact hP)
    ⟨Nat.le_trans hS.1 (by rw [e1]; exact hz), fun q h1 h2 => by rw [e1, hk q (Nat.lt_of_lt_of_le h1 hS.1) (fun z => h2 (hAB q z))]; exact hS.2.1 q h1 h2, fun q hq => by
      rcases List.mem_append.mp hq with h | h
      · exact hS.2.2 q h
      · exact hAB _ (hL q h)⟩ T' rfl X'
  exact ⟨t2, st t2 a1, b1⟩
theorem pu_map (r : Option Value) (rest : List Value) : (r.map (tv ad nu)).toList ++ rest.map (tv ad nu) = (pu r rest).map (tv ad nu) := by
  cases r <;> rfl
set_option maxHeartbeats 4000000 in
set_option maxRecDepth 100000 in
theorem W_all {mu : Nat} {C : Nat → List Value → AMem → Option Value → AMem → Prop} {f0 : Nat} {r0 : Option Value} {m0 : AMem} (F : Frm p s m args c mu) (X : Wfx ad nu tc D b L xs A s) (hR : 1 ≤ R.frames ∧ 60 ≤ R.locals ∧ cells ≤ R.cells ∧ slots ≤ R.slots)
    (hC : ∀ q av mm r m', q < 193 → argOk q av = true → C q av mm r m' → (f0 + 2 ≤ R.frames ∧ 38 * f0 + 98 ≤ R.locals) ∧ Met l (mtY q) (wsq q) (rmf f0) (Pcq ad nu tc D b L xs av mm) (Qcq ad nu tc D r m') 0 0 (adA ad))
    (hret : ∀ (pc : Nat) (H : Heap) (locs : List Loc) (arr : Array Slot) (ls : ALoc) (st : List Value) (i : Instr) (len : Nat), decode (mtC mu) pc = .ok (i, len) → sx (L, xs) mu i len pc ls st m0 = some (.inr (.inl r0)) → va_P D vwCl (wsO ad tc m0) H → va_S A s.heap H locs → W p l e R s m args below meth c H locs cells slots Q (F0 m pc arr (st.map (tv ad nu)))) :
    ∀ (n pc : Nat) (ls : ALoc) (st : List Value) (mm : AMem), Evn (L, xs) C mu n pc ls st mm r0 m0 → ∀ (arr : Array Slot) (H : Heap) (locs : List Loc), lv_has arr (mtM mu) (lav ad nu ls) → ls.length = mtM mu → va_P D vwCl (wsO ad tc mm) H → va_S A s.heap H locs → W p l e R s m args below meth c H locs cells slots Q (F0 m pc arr (st.map (tv ad nu))) := by
  intro n
  induction n with
  | zero => intro pc ls st mm h; exact h.elim
  | succ n ih =>
    intro pc ls st mm h arr H locs hl hn hP hS
    obtain ⟨i, len, hd, hm⟩ := h
    cases hs : sx (L, xs) mu i len pc ls st mm with
    | none => rw [hs] at hm; exact hm.elim
    | some z =>
      rw [hs] at hm
      rcases z with ⟨pc2, ls2, st2, mm2⟩ | r2 | ⟨q, av, rest⟩
      · exact sx_plain F X hR hs hd hl hn hP hS (fun H1 locs1 arr1 hl1 hn1 hP1 hS1 => ih pc2 ls2 st2 mm2 hm arr1 H1 locs1 hl1 hn1 hP1 hS1)
      · obtain ⟨rfl, rfl⟩ := hm
        exact hret pc H locs arr ls st i len hd hs hP hS
      · obtain ⟨r1, m1, hc, hm⟩ := hm
        have X0 := X
        obtain ⟨hnu, hinj, hA, hK, hvk, hvr, hz1, hz2, hnw, hX, hbA, hb2⟩ := X
        obtain ⟨hx, hb, hml, hown, hw⟩ := F
        have hAB : ∀ q, adA ad q → A q := fun q ⟨k, hk, e⟩ => e ▸ hA k hk
        have hts : ∀ w ∈ lw_tbl.filter goodWord, w.before args s = true := fun w h => hw w (List.mem_filter.mp h).1 (List.mem_filter.mp h).2
        have hPc : ∀ U : State, U.heap = H → s.WarmedH U.vm → Pcq ad nu tc D b L xs av mm (av.map (tv ad nu)).toArray U := fun U hU hW => ⟨rfl, by rw [hU]; exact hP, Wfx_call X0 hS hU hW⟩
        have hSz : arr.size = mtM mu := hl.1
        rcases sx_call hs with ⟨idx, k, pl, rfl, rfl, hcal, hk, hst, hlen, hc8, hao⟩ | ⟨idx, pl, a, As, rfl, rfl, hcal, rfl, hst, hlen, hrc, hc8, hao⟩
        · have hq : q < 193 := by
            have h := cal_P hcal
            unfold calP at h
            simp only [Bool.and_eq_true] at h
            exact Nat.le_of_ble_eq_true h.1.1.1.1.1
          obtain ⟨⟨hf1, hf2⟩, hM⟩ := hC q av mm r1 m1 hq hao hc
          obtain ⟨k1, -, k3, k4, k5, -, k7, k8⟩ := mt_ok hq
          have hstat : Cond.static (mtY q) ∈ lw_tbl := k1 (cal_static hcal (by omega))
          have hN : ∀ sig, parseMethodDescriptor (mtY q).desc = some sig → mtN q = sig.parameters.length := fun sig h => by
            rw [h] at k5
            exact (Option.some.inj k5).symm
          rw [hst, List.map_append, List.map_reverse]
          rcases hk with rfl | rfl
          · refine az_call (r := r1) (m2 := m1) (rest := rest.map (tv ad nu)) (a := (av.map (tv ad nu)).toArray) (va_runS (own := cn (mtK mu)) (Ts := lw_tbl.filter goodWord) (index := idx) (n := mtN q) (As := av.map (tv ad nu)) ⟨hx, hb, hml, hown, hts⟩ hM ⟨⟨rfl, rfl, hf1, by show 8 + (mtM q + 11) + (38 * f0 + 60) ≤ _; omega, pay_in hts (wsq_good q hq), List.mem_cons_self, hw _ (mt_code q hq) rfl, hw _ k3 rfl, k4, hN, hw _ (cal_link hcal (by omega)) rfl⟩, hw _ hstat rfl⟩ ⟨Pcq_blind, hPc⟩ rfl (by rw [List.length_map]; exact hlen) hSz rfl (lv_room (cat8_ok hnu ad hc8)) hd ⟨hR.2.2.1, hR.2.2.2⟩) hS hAB (fun H1 locs1 hP1 hS1 => ?_)
            rw [pu_map]
            exact ih (pc + 3) ls (pu r1 rest) m1 hm arr H1 locs1 hl hn hP1 hS1
          · have hnest := cal_nest hcal
            obtain ⟨hc2, rfl, rfl⟩ := hnest
            refine az_call (r := r1) (m2 := m1) (rest := rest.map (tv ad nu)) (a := (av.map (tv ad nu)).toArray) (va_runSN (own := cn (mtK mu)) (host := "TideMen") (Ts := lw_tbl.filter goodWord) (index := 25) (n := mtN 46) (As := av.map (tv ad nu)) ⟨hx, hb, hml, hown, hts⟩ hM ⟨⟨⟨rfl, rfl, hf1, by show 8 + (mtM 46 + 11) + (38 * f0 + 60) ≤ _; omega, pay_in hts (wsq_good 46 hq), List.mem_cons_self⟩, hw _ (mt_code 46 hq) rfl, hw _ k3 rfl, k4, hN, va_Nw.use rfl (by rw [hc2]; exact hnw)⟩, hw _ hstat rfl, trivial⟩ ⟨Pcq_blind, hPc⟩ rfl (by rw [List.length_map]; exact hlen) hSz rfl (lv_room (cat8_ok hnu ad hc8)) hd ⟨hR.2.2.1, hR.2.2.2⟩) hS hAB (fun H1 locs1 hP1 hS1 => ?_)
            rw [pu_map]
            exact ih (pc + 3) ls (pu r1 rest) m1 hm arr H1 locs1 hl hn hP1 hS1
        · have hq : q < 193 := by
            have h := cal_P hcal
            unfold calP at h
            simp only [Bool.and_eq_true] at h
            exact Nat.le_of_ble_eq_true h.1.1.1.1.1
          obtain ⟨⟨hf1, hf2⟩, hM⟩ := hC q _ mm r1 m1 hq hao hc
          obtain ⟨-, k2, k3, k4, k5, -, k7, k8⟩ := mt_ok hq
          obtain ⟨hinst, hsel⟩ := k2 (cal_inst hcal)
          have hN : ∀ sig, parseMethodDescriptor (mtY q).desc = some sig → mtN q = sig.parameters.length := fun sig h => by
            rw [h] at k5
            exact (Option.some.inj k5).symm
          have hrv : ∃ cell : Cell, H[ad a]? = some cell ∧ cell.vm.isStatics = false ∧ s.vm.findClass (mtY q).cls = some cell.cls := by
            unfold rcvOk at hrc
            split at hrc
            · rename_i c0 n0 h0
              have e := Nat.eq_of_beq_eq_true hrc
              have hc7 := (lay_obj h0).2
              rw [k7, ← e, cn_cl c0 hc7]
              exact va_recv hK hP (cl_at c0 hc7) (ws_obj h0)
            · rename_i c0 n0 h0
              have e := Nat.eq_of_beq_eq_true hrc
              obtain ⟨h4, rfl⟩ := lay_str h0
              rw [k7, e]
              exact vk_recv (adK := fun i => ad (104 + 2 * i)) (i := c0) hvk h4 hS
            · cases hrc
          rw [hst, List.map_append, List.map_reverse]
          refine az_call (r := r1) (m2 := m1) (rest := rest.map (tv ad nu)) (a := (Value.ref (ad a) :: As.map (tv ad nu)).toArray) (va_runV (own := cn (mtK mu)) (C := (mtY q).cls) (Ts := lw_tbl.filter goodWord) (index := idx) (n := mtN q) (b := ad a) (As := As.map (tv ad nu)) ⟨hx, hb, hml, hown, hts⟩ hM ⟨⟨rfl, rfl, hf1, by show 8 + (mtM q + 11) + (38 * f0 + 60) ≤ _; omega, pay_in hts (wsq_good q hq), List.mem_cons_self, hw _ (mt_code q hq) rfl, hw _ k3 rfl, k4, hN, hw _ (cal_link hcal (by omega)) rfl⟩, hw _ hinst rfl, hw _ hsel rfl⟩ ⟨Pcq_blind, hrv, hPc⟩ rfl (by rw [List.length_map]; exact hlen) hSz rfl (lv_room (cat8_ok hnu ad hc8)) hd ⟨hR.2.2.1, hR.2.2.2⟩) hS hAB (fun H1 locs1 hP1 hS1 => ?_)
          rw [pu_map]
          exact ih (pc + 3) ls (pu r1 rest) m1 hm arr H1 locs1 hl hn hP1 hS1
theorem lg_app : ∀ (l : ALoc) (n i : Nat) (v : Value), lg (l ++ List.replicate n none) i = some v → lg l i = some v
  | [], 0, i, v, h => by simp [lg] at h
  | [], n + 1, 0, v, h => by simp [List.replicate, lg] at h
  | [], n + 1, i + 1, v, h => by
    have := lg_app [] n i v
    simp only [List.nil_append, List.replicate, lg] at h this
    exact this h
  | x :: l, n, 0, v, h => by simpa [lg] using h
  | x :: l, n, i + 1, v, h => by
    simp only [List.cons_append, lg] at h ⊢
    exact lg_app l n i v h
theorem lg_ent (hnu : nu.category = 1) : ∀ (av : List Value) (k i : Nat) (v : Value), lg (entL av) i = some v → (k + i, tv ad nu v) ∈ lv_args k (av.map (tv ad nu))
  | [], k, i, v, h => by simp [entL, lg] at h
  | w :: av, k, i, v, h => by
    simp only [List.map_cons, lv_args, tv_cat hnu]
    unfold entL at h
    rcases lv_cat w with h1 | h2
    · rw [h1] at h ⊢
      simp only [Nat.beq] at h
      rw [if_neg (by decide)]
      cases i with
      | zero =>
        simp only [lg, Option.some.injEq] at h
        rw [h]
        exact List.mem_cons_self
      | succ i =>
        simp only [lg] at h
        refine List.mem_cons_of_mem _ ?_
        have := lg_ent hnu av (k + 1) i v h
        rwa [show k + 1 + i = k + (i + 1) by omega] at this
    · rw [h2] at h ⊢
      simp only [Nat.beq] at h
      rw [if_pos rfl]
      match i, h with
      | 0, h =>
        simp only [lg, Option.some.injEq] at h
        rw [h]
        exact List.mem_cons_self
      | 1, h => simp [lg] at h
      | i + 2, h =>
        simp only [lg] at h
        refine List.mem_cons_of_mem _ ?_
        have := lg_ent hnu av (k + 2) i v h
        rwa [show k + 2 + i = k + (i + 2) by omega] at this
theorem entL_len (hnu : nu.category = 1) : ∀ (av : List Value), (lg_sl (av.map (tv ad nu))).length = (entL av).length
  | [] => rfl
  | w :: av => by
    have ih := entL_len hnu av
    unfold entL
    simp only [List.map_cons, lg_sl, List.flatMap_cons, List.length_append, tv_cat hnu] at ih ⊢
    rcases lv_cat w with h1 | h2
    · rw [h1, ih, if_neg (by decide)]
      simp only [Nat.beq, List.length_cons, List.length_nil]
      omega
    · rw [h2, ih, if_pos rfl]
      simp only [Nat.beq, List.length_cons, List.length_nil]
      omega
set_option maxHeartbeats 4000000 in
set_option maxRecDepth 100000 in
/-- one level -/
theorem ev_met_body {f q : Nat} {av : List Value} {mm : AMem} {r : Option Value} {m' : AMem} (hq : q < 193) (hao : argOk q av = true) (h : Ev (L, xs) (f + 1) q 0 (ent q av) [] mm r m')
    (hC : ∀ q av mm r m', q < 193 → argOk q av = true → Ev (L, xs) f q 0 (ent q av) [] mm r m' → (f - 1 + 2 ≤ (rmf f).frames ∧ 38 * (f - 1) + 98 ≤ (rmf f).locals) ∧ Met l (mtY q) (wsq q) (rmf (f - 1)) (Pcq ad nu tc D b L xs av mm) (Qcq ad nu tc D r m') 0 0 (adA ad)) :
    Met l (mtY q) (wsq q) (rmf f) (Pcq ad nu tc D b L xs av mm) (Qcq ad nu tc D r m') 0 0 (adA ad) := by
  obtain ⟨k1, k2, k3, k4, k5, k6, k7, k8⟩ := mt_ok hq
  refine Met.ofW (cc := mtC q) (maxL := mtM q) (ret := mtR q) k6 rfl ?_
  intro p e s m args below meth c s₁ B hml hv
  obtain ⟨rfl, hP, X⟩ := hv
  have hts := atoms_spec (ws := wsq q) B.pre
  have hown : s.vm.findClass (cn (mtK q)) = some m.cls := by
    rw [← k7]
    exact findClass_of_methodNamed B.named
  have hlocks := B.notSynchronized
  have hr := B.returns
  have F : Frm p s m (av.map (tv ad nu)).toArray c q := ⟨B.exec, B.bytes, hml, hown, fun w h1 h2 => hts w (List.mem_cons_of_mem _ (List.mem_filter.mpr ⟨h1, h2⟩))⟩
  have hnu := X.1
  have hle : (lg_sl (av.map (tv ad nu))).length ≤ mtM q := by
    rw [entL_len hnu]
    exact Nat.le_of_ble_eq_true hao
  have hl := lv_entry (av.map (tv ad nu)) (n := mtM q) hle
  rw [lg_entry_eq]
  generalize (lg_sl (av.map (tv ad nu)) ++ List.replicate (mtM q - (lg_sl (av.map (tv ad nu))).length) Slot.unset).toArray = arr at hl ⊢
  have hl2 : lv_has arr (mtM q) (lav ad nu (ent q av)) := ⟨hl.1, hl.2.1, fun z hz => by
    obtain ⟨v, h1, h2⟩ := lav_mem.mp hz
    have h3 := lg_ent (ad := ad) hnu av 0 z.1 v (lg_app _ _ _ _ h1)
    rw [Nat.zero_add, ← h2] at h3
    exact hl.2.2 z h3⟩
  have hn : (ent q av).length = mtM q := by
    have h1 : (entL av).length ≤ mtM q := Nat.le_of_ble_eq_true hao
    unfold ent
    rw [List.length_append, List.length_replicate]
    omega
  obtain ⟨n, hev⟩ := h
  have hS0 : va_S (adA ad) s.heap s.heap [] := va_S.rf
  have hx := B.exec
  have hb := B.bytes
  refine W_all (f0 := f - 1) (st := []) F X ⟨by show 1 ≤ f + 1; omega, by show 60 ≤ 38 * f + 60; omega, Nat.le_refl _, Nat.le_refl _⟩ hC ?_ n 0 (ent q av) mm hev arr s.heap [] hl2 hn hP hS0
  intro pc H locs arr ls st i len hd hs hP1 hS1
  have hq1 : ∀ (v : Option Value) (t : State), t.heap = H → v = r.map (tv ad nu) → Qcq ad nu tc D r m' (av.map (tv ad nu)).toArray s (.returned v) t := fun v t ht hv => ⟨by rw [hv], by rw [ht]; exact hP1, hS1.F ht⟩
  rcases sx_ret hs with ⟨rfl, rfl, x, ty, rfl, h3, h4, rfl⟩ | ⟨rfl, rfl, x, rfl, h3, rfl⟩ | ⟨rfl, rfl, x, nm, rfl, h3, rfl⟩ | ⟨rfl, rfl, rfl, h3, rfl⟩
  · exact W.zret (v := x) (ty := ty) hx hb (hr.trans h3) h4 (fun t ht _ => hq1 _ t ht rfl) hS1.2.2 hd
  · exact W.lret (v := x) hx hb (hr.trans h3) (fun t ht _ => hq1 _ t ht rfl) hS1.2.2 hd
  · exact W.aret (v := .ref (ad x)) (rt := .object nm) hx hb (hr.trans h3) (Or.inl ⟨nm, rfl⟩) (Or.inr ⟨ad x, rfl⟩) (fun t ht _ => hq1 _ t ht rfl) hS1.2.2 hd
  · exact W.vret hx hb (hr.trans h3) (fun t ht _ => hq1 _ t ht rfl) hS1.2.2 hd
set_option maxHeartbeats 4000000 in
set_option maxRecDepth 100000 in
/-- A RUN IS A CONTRACT -/
theorem ev_met : ∀ (f : Nat) (q : Nat) (av : List Value) (mm : AMem) (r : Option Value) (m' : AMem), q < 193 → argOk q av = true → Ev (L, xs) (f + 1) q 0 (ent q av) [] mm r m' → Met l (mtY q) (wsq q) (rmf f) (Pcq ad nu tc D b L xs av mm) (Qcq ad nu tc D r m') 0 0 (adA ad) := by
  intro f
  induction f with
  | zero =>
    intro q av mm r m' hq hao h
    exact ev_met_body (f := 0) hq hao h (fun q av mm r m' _ _ h => h.elim)
  | succ f ih =>
    intro q av mm r m' hq hao h
    exact ev_met_body (f := f + 1) hq hao h (fun q av mm r m' h1 h2 h3 => ⟨⟨by show f + 2 ≤ f + 1 + 1; omega, by show 38 * f + 98 ≤ 38 * (f + 1) + 60; omega⟩, ih q av mm r m' h1 h2 h3⟩)
end MET
