/-! each step of the pure machine is a step of the machine -/
def Stt (ad : Nat → Nat) (nu : Value) (b L : Nat) (xs : Nat → Int32) (A : Nat → Prop) (s : State) (H : Heap) : Prop :=
  vk_S 4 (strL.map List.length) strL (fun i => ad (104 + 2 * i)) (fun i => ad (105 + 2 * i)) A s H ∧ vk_R "TideMen$Text" 51 "astd" (ad 110) s ∧ va_Z "java/lang/String" "COMPACT_STRINGS" "Z" (.int 1) A s H ∧ va_Z "jdk/internal/util/Preconditions" "SIOOBE_FORMATTER" "Ljava/util/function/BiFunction;" nu A s H ∧ va_Nw (.methodLinkNest "TideMen$Sightings" 25 yX5_isDay "TideMen") s ∧ va_X b L xs s H ∧ ¬ A b ∧ ad 112 = b
def Frm (p : Program) (s : State) (m : MethodId) (args : Array Value) (c : Code) (mu : Nat) : Prop :=
  p.tables.exec = Jvm.exec ∧ c.code = mtC mu ∧ c.maxLocals = mtM mu ∧ s.vm.findClass (cn (mtK mu)) = some m.cls ∧ ∀ w ∈ lw_tbl, goodWord w = true → w.before args s = true
def Wfx (ad : Nat → Nat) (nu : Value) (tc : Nat → ClassId) (D : va_G) (b L : Nat) (xs : Nat → Int32) (A : Nat → Prop) (s : State) : Prop :=
  nu.category = 1 ∧ (∀ i j, i < 104 → j < 104 → ad i = ad j → i = j) ∧ (∀ k, k < 104 → A (ad k)) ∧ va_K D vwCl (tysO tc) s ∧ Stt ad nu b L xs A s s.heap
theorem nx_inj {a a2 : Nat} {b b2 : ALoc} {c c2 : List Value} {d d2 : AMem} (h : nx a b c d = some (.inl (a2, b2, c2, d2))) : a2 = a ∧ b2 = b ∧ c2 = c ∧ d2 = d := by
  unfold nx at h
  cases h
  exact ⟨rfl, rfl, rfl, rfl⟩
theorem sxA_inv {mu op k pc pc2 : Nat} {ls ls2 : ALoc} {st st2 : List Value} {m m2 : AMem} (h : sxA mu op k ls st m pc = some (.inl (pc2, ls2, st2, m2))) : ∃ v, lg ls k = some v ∧ pc2 = pc ∧ ls2 = ls ∧ st2 = v :: st ∧ m2 = m ∧ ((op = 0 ∧ ∃ x, v = .int x) ∨ (op = 1 ∧ ∃ x, v = .long x) ∨ (op = 2 ∧ ∃ x, v = .ref x)) := by
  unfold sxA at h
  split at h
  · rename_i x hx
    obtain ⟨h1, h2⟩ := ifN h
    obtain ⟨rfl, rfl, rfl, rfl⟩ := nx_inj h2
    exact ⟨_, hx, rfl, rfl, rfl, rfl, Or.inl ⟨h1, x, rfl⟩⟩
  · rename_i x hx
    obtain ⟨h1, h2⟩ := ifN h
    obtain ⟨rfl, rfl, rfl, rfl⟩ := nx_inj h2
    exact ⟨_, hx, rfl, rfl, rfl, rfl, Or.inr (Or.inl ⟨h1, x, rfl⟩)⟩
  · rename_i x hx
    obtain ⟨h1, h2⟩ := ifN h
    obtain ⟨rfl, rfl, rfl, rfl⟩ := nx_inj h2
    exact ⟨_, hx, rfl, rfl, rfl, rfl, Or.inr (Or.inr ⟨h1, x, rfl⟩)⟩
  · cases h
theorem sxA_i {mu k pc pc2 : Nat} {ls ls2 : ALoc} {st st2 : List Value} {m m2 : AMem} (h : sxA mu 0 k ls st m pc = some (.inl (pc2, ls2, st2, m2))) : ∃ x, lg ls k = some (.int x) ∧ pc2 = pc ∧ ls2 = ls ∧ st2 = .int x :: st ∧ m2 = m := by
  obtain ⟨v, h1, h2, h3, h4, h5, ⟨-, x, rfl⟩ | ⟨h6, -⟩ | ⟨h6, -⟩⟩ := sxA_inv h
  · exact ⟨x, h1, h2, h3, h4, h5⟩
  · cases h6
  · cases h6
theorem sxA_l {mu k pc pc2 : Nat} {ls ls2 : ALoc} {st st2 : List Value} {m m2 : AMem} (h : sxA mu 1 k ls st m pc = some (.inl (pc2, ls2, st2, m2))) : ∃ x, lg ls k = some (.long x) ∧ pc2 = pc ∧ ls2 = ls ∧ st2 = .long x :: st ∧ m2 = m := by
  obtain ⟨v, h1, h2, h3, h4, h5, ⟨h6, -⟩ | ⟨-, x, rfl⟩ | ⟨h6, -⟩⟩ := sxA_inv h
  · cases h6
  · exact ⟨x, h1, h2, h3, h4, h5⟩
  · cases h6
theorem sxA_r {mu k pc pc2 : Nat} {ls ls2 : ALoc} {st st2 : List Value} {m m2 : AMem} (h : sxA mu 2 k ls st m pc = some (.inl (pc2, ls2, st2, m2))) : ∃ x, lg ls k = some (.ref x) ∧ pc2 = pc ∧ ls2 = ls ∧ st2 = .ref x :: st ∧ m2 = m := by
  obtain ⟨v, h1, h2, h3, h4, h5, ⟨h6, -⟩ | ⟨h6, -⟩ | ⟨-, x, rfl⟩⟩ := sxA_inv h
  · cases h6
  · cases h6
  · exact ⟨x, h1, h2, h3, h4, h5⟩
theorem sxS_inv {mu k pc pc2 : Nat} {v : Value} {ls ls2 : ALoc} {st st2 : List Value} {m m2 : AMem} (h : sxS mu k ls v st m pc = some (.inl (pc2, ls2, st2, m2))) : k < ls.length ∧ lpre ls k = true ∧ pc2 = pc ∧ ls2 = lset ls k (some v) ∧ st2 = st ∧ m2 = m := by
  unfold sxS at h
  obtain ⟨h1, h2⟩ := ifN h
  rw [Bool.and_eq_true] at h1
  exact ⟨Nat.le_of_ble_eq_true h1.1, h1.2, nx_inj h2⟩
theorem sxS2_inv {mu k pc pc2 : Nat} {v : Value} {ls ls2 : ALoc} {st st2 : List Value} {m m2 : AMem} (h : sxS2 mu k ls v st m pc = some (.inl (pc2, ls2, st2, m2))) : k + 1 < ls.length ∧ lpre ls k = true ∧ pc2 = pc ∧ ls2 = lset (lset ls k (some v)) (k + 1) none ∧ st2 = st ∧ m2 = m := by
  unfold sxS2 at h
  obtain ⟨h1, h2⟩ := ifN h
  rw [Bool.and_eq_true] at h1
  exact ⟨Nat.le_of_ble_eq_true h1.1, h1.2, nx_inj h2⟩
theorem ws_arr {ad : Nat → Nat} {tc : Nat → ClassId} {m : AMem} {a t n : Nat} (h : lay a = (1, t, n)) : (wsO ad tc m)[a]? = some (ad a, .inl (tc t, n, .inl (m a))) := by
  rw [wsO_get (lay_arr h).1]
  simp only [ceE, h]
theorem ws_ref {ad : Nat → Nat} {tc : Nat → ClassId} {m : AMem} {a t n : Nat} (h : lay a = (2, t, n)) : (wsO ad tc m)[a]? = some (ad a, .inl (tc t, n, .inr (.inr (.inr (.inr (fun j => (rf a j).map ad)))))) := by
  rw [wsO_get (lay_ref h).1]
  simp only [ceE, h]
theorem ws_obj {ad : Nat → Nat} {tc : Nat → ClassId} {m : AMem} {a ci n : Nat} (h : lay a = (0, ci, n)) : (wsO ad tc m)[a]? = some (ad a, .inr (ci, (List.range n).map (fun j => tv ad .null (fvg a j (m a))))) := by
  rw [wsO_get (lay_obj h).1]
  simp only [ceE, h]
theorem up_ne {m : AMem} {a k : Nat} {x : Int32} {j : Nat} (h : j ≠ a) : up m a k x j = m j := by
  funext i
  simp [up, h]
theorem up_eq {m : AMem} {a k : Nat} {x : Int32} : up m a k x a = upd (m a) k x := by
  funext i
  simp [up, upd]
theorem upA_ne {m : AMem} {a : Nat} {f : Nat → Int32} {j : Nat} (h : j ≠ a) : upA m a f j = m j := by
  funext i
  simp [upA, h]
theorem upA_eq {m : AMem} {a : Nat} {f : Nat → Int32} : upA m a f a = f := by
  funext i
  simp [upA]
theorem wsO_arr {ad : Nat → Nat} {tc : Nat → ClassId} {m : AMem} {a t n k : Nat} {x : Int32} (h : lay a = (1, t, n)) : (wsO ad tc m).set a (ad a, .inl (tc t, n, .inl (upd (m a) k x))) = wsO ad tc (up m a k x) :=
  wsO_set (lay_arr h).1 (by rw [up_eq]; simp only [ceE, h]) (fun j hj => up_ne hj)
theorem wsO_arrA {ad : Nat → Nat} {tc : Nat → ClassId} {m : AMem} {a t n : Nat} {f : Nat → Int32} (h : lay a = (1, t, n)) : (wsO ad tc m).set a (ad a, .inl (tc t, n, .inl f)) = wsO ad tc (upA m a f) :=
  wsO_set (lay_arr h).1 (by rw [upA_eq]; simp only [ceE, h]) (fun j hj => upA_ne hj)
theorem wsO_fld {ad : Nat → Nat} {tc : Nat → ClassId} {m : AMem} {a ci n k : Nat} {x : Int32} (h : lay a = (0, ci, n)) (hr : rf a k = none) : (wsO ad tc m).set a (ad a, .inr (ci, ((List.range n).map (fun j => tv ad .null (fvg a j (m a)))).set k (.int x))) = wsO ad tc (up m a k x) := by
  refine wsO_set (lay_obj h).1 ?_ (fun j hj => up_ne hj)
  rw [up_eq]
  simp only [ceE, h]
  congr 2
  apply List.ext_getElem?
  intro j
  by_cases hj : j = k
  · subst hj
    by_cases hl : j < n
    · rw [List.getElem?_set_self (by simpa using hl), List.getElem?_map, List.getElem?_range hl]
      simp [fvg, hr, upd, tv]
    · rw [List.getElem?_eq_none (by simpa using hl), List.getElem?_eq_none (by simpa using hl)]
  · rw [List.getElem?_set_ne (Ne.symm hj), List.getElem?_map, List.getElem?_map]
    by_cases hl : j < n
    · rw [List.getElem?_range hl]
      simp [fvg, upd, hj]
    · rw [List.getElem?_eq_none (by simpa using hl)]
      rfl
theorem tv_fvg {ad : Nat → Nat} {nu : Value} (k j : Nat) (g : Nat → Int32) : tv ad .null (fvg k j g) = tv ad nu (fvg k j g) := by
  unfold fvg
  cases rf k j <;> rfl
theorem tab_all {α : Type} {tab : List (List α)} {N : Nat} {P : Nat → α → Bool} (hN : tab.length ≤ N) (h : (List.range N).all (fun c => (tab.getD c []).all (P c)) = true) {c : Nat} {x : α} (hm : x ∈ tab.getD c []) : P c x = true := by
  by_cases hc : c < N
  · exact List.all_eq_true.mp (List.all_eq_true.mp h c (List.mem_range.mpr hc)) x hm
  · rw [List.getD_eq_getElem?_getD, List.getElem?_eq_none (by omega)] at hm
    cases hm
theorem cst_ok {c idx pl : Nat} {v : Int32} (h : cst c idx = some (v, pl)) : Cond.constant (cn c) idx v ∈ lw_tbl := by
  have h0 : (idx, v, pl) ∈ cstT.getD c [] := findI_mem h
  have h1 := tab_all (tab := cstT) (N := 16) (P := fun c e => decide (lw_tbl[e.2.2]? = some (.constant (cn c) e.1 e.2.1))) (by decide +kernel) cst_tab h0
  exact List.mem_of_getElem? (of_decide_eq_true h1)
theorem csl_ok {c idx pl : Nat} {v : Int64} (h : csl c idx = some (v, pl)) : Cond.constantLong (cn c) idx v ∈ lw_tbl := by
  have h0 : (idx, v, pl) ∈ cslT.getD c [] := findI_mem h
  have h1 := tab_all (tab := cslT) (N := 16) (P := fun c e => decide (lw_tbl[e.2.2]? = some (.constantLong (cn c) e.1 e.2.1))) (by decide +kernel) csl_tab h0
  exact List.mem_of_getElem? (of_decide_eq_true h1)
theorem fld_ok {c idx ci j pl : Nat} (h : fld c idx = some (ci, j, pl)) : Cond.fieldLink (cn c) idx (fldW ci j).1 (fldW ci j).2.1 (fldW ci j).2.2 ∈ lw_tbl ∧ (ci = 7 ∨ ci < 7 ∧ j < clN ci) := by
  have h0 : (idx, ci, j, pl) ∈ fldT.getD c [] := findI_mem h
  have h1 := tab_all (tab := fldT) (N := 16) (P := fun c e => decide (lw_tbl[e.2.2.2]? = some (.fieldLink (cn c) e.1 (fldW e.2.1 e.2.2.1).1 (fldW e.2.1 e.2.2.1).2.1 (fldW e.2.1 e.2.2.1).2.2)) && (Nat.beq e.2.1 7 || (Nat.blt e.2.1 7 && Nat.blt e.2.2.1 (clN e.2.1)))) (by decide +kernel) fld_tab h0
  rw [Bool.and_eq_true, Bool.or_eq_true, Bool.and_eq_true] at h1
  refine ⟨List.mem_of_getElem? (of_decide_eq_true h1.1), ?_⟩
  rcases h1.2 with h2 | h2
  · exact Or.inl (Nat.eq_of_beq_eq_true h2)
  · exact Or.inr ⟨Nat.le_of_ble_eq_true h2.1, Nat.le_of_ble_eq_true h2.2⟩
theorem lay_in {ci : Nat} (hc : ci < 7) : ∀ w ∈ u_ws (clR ci) (fTT ci) (clN ci), w ∈ lw_tbl.filter goodWord := by
  intro w hw
  obtain ⟨k, hk, rfl⟩ := List.mem_map.mp hw
  have h1 := List.all_eq_true.mp (List.all_eq_true.mp word_lay ci (List.mem_range.mpr hc)) k hk
  rw [Bool.and_eq_true] at h1
  exact List.mem_filter.mpr ⟨of_decide_eq_true h1.1, h1.2⟩
theorem str_len : ∀ k, k < 4 → (strL.map List.length).getD k 0 = (strL.getD k []).length := by decide +kernel
theorem gs_words : lw_tbl[382]? = some (.fieldLink "java/lang/String" 38 "java/lang/String" "COMPACT_STRINGS" "Z") ∧ lw_tbl[398]? = some (.fieldLink "java/lang/String" 1053 "jdk/internal/util/Preconditions" "SIOOBE_FORMATTER" "Ljava/util/function/BiFunction;") := by decide +kernel
theorem nfw : nativeFrameWords "java/lang/System" "arraycopy" 5 + 11 + 8 ≤ 60 := by decide +kernel
