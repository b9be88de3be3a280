section CON
variable {p : Program} {l : Launch} {e : Env} {R : Room} {s : State} {m : MethodId} {args : Array Value} {below : List Frame} {meth : Method} {c : Code} {cells slots : Nat} {Q : State → Prop} {H H0 : Heap} {locs : List Loc}
variable {tc : Nat → ClassId} {D : va_G} {A : Nat → Prop} {cc : ByteArray} {own : String} {nL pc : Nat} {ls : Array Slot} {rest : List Value} {ws : va_W} {a : Nat}
/-- in a constructor: the machine, the words, the classes -/
def Cx (p : Program) (s : State) (m : MethodId) (args : Array Value) (c : Code) (cc : ByteArray) (nL : Nat) (own : String) (D : va_G) (tc : Nat → ClassId) : Prop :=
  p.tables.exec = Jvm.exec ∧ c.code = cc ∧ c.maxLocals = nL ∧ s.vm.findClass own = some m.cls ∧ (∀ w ∈ lw_tbl.filter goodWord, w.before args s = true) ∧ va_K D vwCl (tysO tc) s
theorem gw (X : Cx p s m args c cc nL own D tc) {w : Cond} (I : Nat) (h : lw_tbl[I]? = some w) (hg : goodWord w = true) : w.before args s = true := X.2.2.2.2.1 w (List.mem_filter.mpr ⟨List.mem_of_getElem? h, hg⟩)
theorem cn_int (X : Cx p s m args c cc nL own D tc) (hP : va_P D vwCl ws H) (hD : va_D A ws) (hS : va_S A H0 H locs) (hA : ∀ q, H0.size ≤ q → A q) {n : Int32} {N' : Nat} (hn : ¬ n < 0) (hN : n.toNatClampNeg = N') (hb2 : N' * componentBytes FieldType.int ≤ 536870912) (hcells : cells + 1 ≤ R.cells) (hslots : slots + N' ≤ R.slots) (hdg : decode cc pc = .ok (.newarray .int, 2))
    (kk : ∀ (q : Nat) (H1 : Heap), va_P D vwCl (ws ++ [(q, .inl (tc 0, N', .inl (fun _ => 0)))]) H1 → va_D A (ws ++ [(q, .inl (tc 0, N', .inl (fun _ => 0)))]) → va_S A H0 H1 locs → W p l e R s m args below meth c H1 locs (cells + 1) (slots + N') Q (F0 m (pc + 2) ls (.ref q :: rest))) : W p l e R s m args below meth c H locs cells slots Q (F0 m pc ls (.int n :: rest)) := by
  have hK := X.2.2.2.2.2
  refine va_newa (a0 := (N', .inl (fun _ => 0))) (ty := .int) (atype := .int) X.1 X.2.1 (gw X 184 (by decide +kernel) rfl) rfl hK hP hD hS hA (fun cA => rfl) hn hN hb2 hcells hslots hdg (fun q cA H1 hK1 hP1 hD1 hS1 => ?_)
  have h1 : s.vm.findClass ("[" ++ (FieldType.int).toString) = some cA := (hK1.2 5 (cA, .int) rfl).2
  have h2 : s.vm.findClass ("[" ++ (FieldType.int).toString) = some (tc 0) := (hK.2 0 (tc 0, .int) rfl).2
  have e : cA = tc 0 := Option.some.inj (h1.symm.trans h2)
  subst e
  exact kk q H1 hP1 hD1 hS1
theorem cn_char (X : Cx p s m args c cc nL own D tc) (hP : va_P D vwCl ws H) (hD : va_D A ws) (hS : va_S A H0 H locs) (hA : ∀ q, H0.size ≤ q → A q) {n : Int32} {N' : Nat} (hn : ¬ n < 0) (hN : n.toNatClampNeg = N') (hb2 : N' * componentBytes FieldType.char ≤ 536870912) (hcells : cells + 1 ≤ R.cells) (hslots : slots + N' ≤ R.slots) (hdg : decode cc pc = .ok (.newarray .char, 2))
    (kk : ∀ (q : Nat) (H1 : Heap), va_P D vwCl (ws ++ [(q, .inl (tc 1, N', .inl (fun _ => 0)))]) H1 → va_D A (ws ++ [(q, .inl (tc 1, N', .inl (fun _ => 0)))]) → va_S A H0 H1 locs → W p l e R s m args below meth c H1 locs (cells + 1) (slots + N') Q (F0 m (pc + 2) ls (.ref q :: rest))) : W p l e R s m args below meth c H locs cells slots Q (F0 m pc ls (.int n :: rest)) := by
  have hK := X.2.2.2.2.2
  refine va_newa (a0 := (N', .inl (fun _ => 0))) (ty := .char) (atype := .char) X.1 X.2.1 (gw X 286 (by decide +kernel) rfl) rfl hK hP hD hS hA (fun cA => rfl) hn hN hb2 hcells hslots hdg (fun q cA H1 hK1 hP1 hD1 hS1 => ?_)
  have h1 : s.vm.findClass ("[" ++ (FieldType.char).toString) = some cA := (hK1.2 5 (cA, .char) rfl).2
  have h2 : s.vm.findClass ("[" ++ (FieldType.char).toString) = some (tc 1) := (hK.2 1 (tc 1, .char) rfl).2
  have e : cA = tc 1 := Option.some.inj (h1.symm.trans h2)
  subst e
  exact kk q H1 hP1 hD1 hS1
theorem cn_bool (X : Cx p s m args c cc nL own D tc) (hP : va_P D vwCl ws H) (hD : va_D A ws) (hS : va_S A H0 H locs) (hA : ∀ q, H0.size ≤ q → A q) {n : Int32} {N' : Nat} (hn : ¬ n < 0) (hN : n.toNatClampNeg = N') (hb2 : N' * componentBytes FieldType.boolean ≤ 536870912) (hcells : cells + 1 ≤ R.cells) (hslots : slots + N' ≤ R.slots) (hdg : decode cc pc = .ok (.newarray .boolean, 2))
    (kk : ∀ (q : Nat) (H1 : Heap), va_P D vwCl (ws ++ [(q, .inl (tc 2, N', .inl (fun _ => 0)))]) H1 → va_D A (ws ++ [(q, .inl (tc 2, N', .inl (fun _ => 0)))]) → va_S A H0 H1 locs → W p l e R s m args below meth c H1 locs (cells + 1) (slots + N') Q (F0 m (pc + 2) ls (.ref q :: rest))) : W p l e R s m args below meth c H locs cells slots Q (F0 m pc ls (.int n :: rest)) := by
  have hK := X.2.2.2.2.2
  refine va_newa (a0 := (N', .inl (fun _ => 0))) (ty := .boolean) (atype := .boolean) X.1 X.2.1 (gw X 969 (by decide +kernel) rfl) rfl hK hP hD hS hA (fun cA => rfl) hn hN hb2 hcells hslots hdg (fun q cA H1 hK1 hP1 hD1 hS1 => ?_)
  have h1 : s.vm.findClass ("[" ++ (FieldType.boolean).toString) = some cA := (hK1.2 5 (cA, .boolean) rfl).2
  have h2 : s.vm.findClass ("[" ++ (FieldType.boolean).toString) = some (tc 2) := (hK.2 2 (tc 2, .boolean) rfl).2
  have e : cA = tc 2 := Option.some.inj (h1.symm.trans h2)
  subst e
  exact kk q H1 hP1 hD1 hS1
theorem cn_refs (X : Cx p s m args c cc nL own D tc) (t : Nat) {C : String} (ht : (tysO tc)[t]? = some (tc t, .object C)) (I : Nat) {index : Nat} (hcl : lw_tbl[I]? = some (.classLink own index C)) (hov : va_AO C s) (hP : va_P D vwCl ws H) (hD : va_D A ws) (hS : va_S A H0 H locs) (hA : ∀ q, H0.size ≤ q → A q) {n : Int32} {N' : Nat} (hn : ¬ n < 0) (hN : n.toNatClampNeg = N') (hb2 : N' * 4 ≤ 536870912) (hcells : cells + 1 ≤ R.cells) (hslots : slots + N' ≤ R.slots) (hdg : decode cc pc = .ok (.anewarray index, 3))
    (kk : ∀ (q : Nat) (H1 : Heap), va_P D vwCl (ws ++ [(q, .inl (tc t, N', .inr (.inr (.inr (.inr (fun _ => none))))))]) H1 → va_D A (ws ++ [(q, .inl (tc t, N', .inr (.inr (.inr (.inr (fun _ => none))))))]) → va_S A H0 H1 locs → W p l e R s m args below meth c H1 locs (cells + 1) (slots + N') Q (F0 m (pc + 3) ls (.ref q :: rest))) : W p l e R s m args below meth c H locs cells slots Q (F0 m pc ls (.int n :: rest)) := by
  have hK := X.2.2.2.2.2
  refine va_newq X.1 X.2.1 X.2.2.2.1 (gw X I hcl rfl) hov hK hP hD hS hA hn hN hb2 hcells hslots hdg (fun q cA H1 hK1 hP1 hD1 hS1 => ?_)
  obtain ⟨_, _, -, -, -, h1⟩ := (hK1.2 5 (cA, .object C) rfl).2
  obtain ⟨_, _, -, -, -, h2⟩ := (hK.2 t (tc t, .object C) ht).2
  have e : cA = tc t := Option.some.inj (h1.symm.trans h2)
  subst e
  exact kk q H1 hP1 hD1 hS1
theorem cn_new (X : Cx p s m args c cc nL own D tc) (ci : Nat) (h7 : ci < 7) (I J K : Nat) {index : Nat} (hcl : lw_tbl[I]? = some (.classLink own index (clR ci))) (hin : lw_tbl[J]? = some (.instantiable (clR ci) (clN ci))) (hini : lw_tbl[K]? = some (.initialized (clR ci))) (hP : va_P D vwCl ws H) (hD : va_D A ws) (hS : va_S A H0 H locs) (hA : ∀ q, H0.size ≤ q → A q) {fs : List Value} (hfs : (List.range (clN ci)).all (fun j => decide (defaultValue (fty ci j) = vp_V fs j)) = true) (hcells : cells + 1 ≤ R.cells) (hslots : slots + clN ci ≤ R.slots) (hdg : decode cc pc = .ok (.new index, 3))
    (kk : ∀ (q : Nat) (H1 : Heap), va_P D vwCl (ws ++ [(q, .inr (ci, fs))]) H1 → va_D A (ws ++ [(q, .inr (ci, fs))]) → va_S A H0 H1 locs → W p l e R s m args below meth c H1 locs (cells + 1) (slots + clN ci) Q (F0 m (pc + 3) ls (.ref q :: rest))) : W p l e R s m args below meth c H locs cells slots Q (F0 m pc ls rest) :=
  va_new (ci := ci) (fs := fs) (C := clR ci) (T := fTT ci) (N := clN ci) X.1 X.2.1 X.2.2.2.2.1 (lay_in h7) (fty ci) (fTT_ty ci h7).1 X.2.2.2.1 (gw X I hcl rfl) (gw X J hin rfl) (gw X K hini rfl) X.2.2.2.2.2 hP hD hS hA (cl_at ci h7) (fun j hj => of_decide_eq_true (List.all_eq_true.mp hfs j (List.mem_range.mpr hj))) hcells hslots hdg kk
theorem cn_put (X : Cx p s m args c cc nL own D tc) (ci : Nat) (h7 : ci < 7) (hP : va_P D vwCl ws H) (hD : va_D A ws) (hS : va_S A H0 H locs) {fs : List Value} (he : ws[0]? = some (a, .inr (ci, fs))) (k I : Nat) {index : Nat} (hk : k < clN ci) (hl : k < fs.length) (hlk : lw_tbl[I]? = some (.fieldLink own index (fTT ci k).1 (fTT ci k).2.1 (fTT ci k).2.2.1)) (hdecl : (fTT ci k).1 = own) (hin : meth.name = "<init>") {v : Value} (hn : narrow (fty ci k) v = v) (hfit : fits (fty ci k) v = true) (hdg : decode cc pc = .ok (.putfield index, 3))
    (kk : ∀ (H1 : Heap) (locs1 : List Loc), va_P D vwCl (ws.set 0 (a, .inr (ci, fs.set k v))) H1 → va_D A (ws.set 0 (a, .inr (ci, fs.set k v))) → va_S A H0 H1 locs1 → W p l e R s m args below meth c H1 locs1 cells slots Q (F0 m (pc + 3) ls rest)) : W p l e R s m args below meth c H locs cells slots Q (F0 m pc ls (v :: .ref a :: rest)) := by
  cases hf : (fTT ci k).2.2.2 with
  | true => exact va_putF (C := clR ci) (T := fTT ci) (N := clN ci) X.1 X.2.1 X.2.2.2.2.1 (lay_in h7) (fty ci) (fTT_ty ci h7).1 (fTT_ty ci h7).2 X.2.2.2.1 X.2.2.2.2.2 hP hD hS 0 he (cl_at ci h7) k hk (gw X I hlk rfl) (fun _ h9 => h9) hf hin hdecl ((fTT_ty ci h7).1 k hk) hn hfit hl hdg kk
  | false => exact va_put (C := clR ci) (T := fTT ci) (N := clN ci) X.1 X.2.1 X.2.2.2.2.1 (lay_in h7) (fty ci) (fTT_ty ci h7).1 (fTT_ty ci h7).2 X.2.2.2.1 X.2.2.2.2.2 hP hD hS 0 he (cl_at ci h7) k hk (gw X I hlk rfl) (fun _ h9 => h9) hf ((fTT_ty ci h7).1 k hk) hn hfit hl hdg kk
theorem cn_get (X : Cx p s m args c cc nL own D tc) (ci : Nat) (h7 : ci < 7) (hP : va_P D vwCl ws H) {fs : List Value} (he : ws[0]? = some (a, .inr (ci, fs))) (k I : Nat) {index : Nat} (hk : k < clN ci) (hlk : lw_tbl[I]? = some (.fieldLink own index (fTT ci k).1 (fTT ci k).2.1 (fTT ci k).2.2.1)) {v : Value} (hv : fs[k]? = some v) (hdg : decode cc pc = .ok (.getfield index, 3))
    (kk : W p l e R s m args below meth c H locs cells slots Q (F0 m (pc + 3) ls (v :: rest))) : W p l e R s m args below meth c H locs cells slots Q (F0 m pc ls (.ref a :: rest)) :=
  va_get (C := clR ci) (T := fTT ci) (N := clN ci) X.1 X.2.1 X.2.2.2.2.1 (lay_in h7) X.2.2.2.1 X.2.2.2.2.2 hP 0 he (cl_at ci h7) k hk (gw X I hlk rfl) (fun _ h9 => h9) hv hdg kk
theorem cn_getk (X : Cx p s m args c cc nL own D tc) (ci : Nat) (h7 : ci < 7) (hP : va_P D vwCl ws H) (k0 : Nat) {fs : List Value} (he : ws[k0]? = some (a, .inr (ci, fs))) (k I : Nat) {index : Nat} (hk : k < clN ci) (hlk : lw_tbl[I]? = some (.fieldLink own index (fTT ci k).1 (fTT ci k).2.1 (fTT ci k).2.2.1)) {v : Value} (hv : fs[k]? = some v) (hdg : decode cc pc = .ok (.getfield index, 3))
    (kk : W p l e R s m args below meth c H locs cells slots Q (F0 m (pc + 3) ls (v :: rest))) : W p l e R s m args below meth c H locs cells slots Q (F0 m pc ls (.ref a :: rest)) :=
  va_get (C := clR ci) (T := fTT ci) (N := clN ci) X.1 X.2.1 X.2.2.2.2.1 (lay_in h7) X.2.2.2.1 X.2.2.2.2.2 hP k0 he (cl_at ci h7) k hk (gw X I hlk rfl) (fun _ h9 => h9) hv hdg kk
theorem cn_oinit (X : Cx p s m args c cc nL own D tc) (I J K : Nat) {index : Nat} (hlk : lw_tbl[I]? = some (.methodLink own index Lib.objectInit)) (hin : lw_tbl[J]? = some (.instanceMethod Lib.objectInit)) (hcd : lw_tbl[K]? = some (.code Lib.objectInit ⟨#[0xb1]⟩ 1 none)) (hl : ls.size = nL) (hf : 1 ≤ R.frames) (hlo : 12 ≤ R.locals) (hdg : decode cc pc = .ok (.invokespecial index, 3))
    (kk : W p l e R s m args below meth c H locs cells slots Q (F0 m (pc + 3) ls [])) : W p l e R s m args below meth c H locs cells slots Q (F0 m pc ls [.ref a]) :=
  W.objInit X.1 X.2.1 X.2.2.2.1 (gw X I hlk rfl) (gw X J hin rfl) (gw X K hcd rfl) rfl (by rw [X.2.2.1]; exact hl) rfl hdg hf hlo kk
def wsI (y : MethodName) (cb : ByteArray) (n : Nat) : List Cond := Cond.code y cb n none :: lw_tbl.filter goodWord
theorem wsI_good {y : MethodName} {cb : ByteArray} {n : Nat} (h : Cond.code y cb n none ∈ lw_tbl) : GoodIn (lw_tbl.filter goodWord) (wsI y cb n) := by
  intro w hw
  rcases List.mem_cons.mp hw with rfl | hw
  · exact ⟨List.mem_filter.mpr ⟨h, rfl⟩, Or.inl rfl⟩
  · exact ⟨hw, good_of_word (List.mem_filter.mp hw).2⟩
/-- a constructor's contract: of the one object h0 it makes the cells W1 g -/
def Cn (l : Launch) (D : va_G) (tc : Nat → ClassId) (y : MethodName) (cb : ByteArray) (mL : Nat) (rm : Room) (mc ms : Nat) (av : List Value) (ci : Nat) (fs : List Value) (h0 : Nat) (W1 : (Nat → Nat) → va_W) (V : State → Prop) : Prop :=
  ∀ sz : Nat, Met l y (wsI y cb mL) rm (va_Pc (.ref h0 :: av) (fun U => U.heap.size = sz ∧ va_P D vwCl [(h0, .inr (ci, fs))] U.heap ∧ va_K D vwCl (tysO tc) U ∧ va_D (fun _ => True) [(h0, .inr (ci, fs))] ∧ V U)) (va_Qv (fun _ : Nat → Nat => True) (fun g t => va_P D vwCl (W1 g) t.heap ∧ va_D (va_A [(h0, .inr (ci, fs))] sz) (W1 g)) (va_A [(h0, .inr (ci, fs))] sz)) mc ms (va_A [(h0, .inr (ci, fs))] sz)
theorem cn_body {y : MethodName} {cb : ByteArray} {mL : Nat} {rm : Room} {mc ms : Nat} {av : List Value} {ci : Nat} {fs : List Value} {h0 : Nat} {W1 : (Nat → Nat) → va_W} {V : State → Prop} (hy : plainName y.cls = true) (hc : y.cls = own) (hnm : y.name = "<init>") (hle : (lg_sl (.ref h0 :: av)).length ≤ mL)
    (body : ∀ (p : Program) (e : Env) (s : State) (m : MethodId) (args : Array Value) (below : List Frame) (meth : Method) (c : Code) (A : Nat → Prop) (ls : Array Slot) (Q : State → Prop), Cx p s m args c cb mL own D tc → meth.name = "<init>" → V s → va_P D vwCl [(h0, .inr (ci, fs))] s.heap → va_D A [(h0, .inr (ci, fs))] → (∀ q, s.heap.size ≤ q → A q) → lv_has ls mL (lv_args 0 (.ref h0 :: av)) →
      (∀ (g : Nat → Nat) (H : Heap) (locs : List Loc) (pc : Nat) (ls : Array Slot), va_P D vwCl (W1 g) H → va_D A (W1 g) → va_S A s.heap H locs → decode cb pc = .ok (.return_, 1) → W p l e rm s m args below meth c H locs mc ms Q (F0 m pc ls [])) → W p l e rm s m args below meth c s.heap [] 0 0 Q (F0 m 0 ls [])) : Cn l D tc y cb mL rm mc ms av ci fs h0 W1 V := by
  intro sz
  refine Met.ofW (cc := cb) (maxL := mL) (ret := none) hy rfl ?_
  intro p e s m args below meth c s₁ B hml hv
  obtain ⟨rfl, hsz, hP, hK, hD0, hV⟩ := hv
  have hts := atoms_spec (ws := wsI y cb mL) B.pre
  have hown : s.vm.findClass own = some m.cls := by
    rw [← hc]
    exact findClass_of_methodNamed B.named
  have hlocks := B.notSynchronized
  have hr := B.returns
  have hin : meth.name = "<init>" := (name_of_methodNamed B.named B.method).1.trans hnm
  subst hsz
  have hD := hD0.self (sz := s.heap.size)
  generalize hAe : va_A [(h0, .inr (ci, fs))] s.heap.size = A at hD ⊢
  have hA : ∀ q : Nat, s.heap.size ≤ q → A q := fun q h => by rw [← hAe]; exact Or.inr h
  have hl := lv_entry (.ref h0 :: av) (n := mL) hle
  have hx := B.exec
  have hb := B.bytes
  rw [lg_entry_eq]
  generalize (lg_sl (.ref h0 :: av) ++ List.replicate (mL - (lg_sl (.ref h0 :: av)).length) Slot.unset).toArray = arr at hl ⊢
  refine body p e s m _ below meth c A arr _ ⟨hx, hb, hml, hown, fun w h => hts w (List.mem_cons_of_mem _ h), hK⟩ hin hV hP hD hA hl (fun g H locs pc ls hP1 hD1 hS1 hdg => ?_)
  exact W.vret hx hb hr (fun t ht _ => ⟨⟨g, rfl, trivial, by rw [ht]; exact hP1, hD1⟩, hS1.F ht⟩) hS1.2.2 hdg
theorem cn_call (X : Cx p s m args c cc nL own D tc) {y : MethodName} {cb : ByteArray} {mL : Nat} {rm : Room} {mc ms : Nat} {As : List Value} {ci : Nat} {fs : List Value} {h0 : Nat} {W1 : (Nat → Nat) → va_W} {V : State → Prop} (M : Cn l D tc y cb mL rm mc ms As ci fs h0 W1 V) (hVc : ∀ (U : State) g mk a, V U → V (U.calling g mk a)) (hV : ∀ U : State, s.WarmedH U.vm → V U) (wr : va_W) (k : Nat) (isR : List Nat) {index n : Nat} (J K C : Nat) (hini : lw_tbl[J]? = some (.initialized y.cls)) (hinst : lw_tbl[K]? = some (.instanceMethod y)) (hcode : lw_tbl[C]? = some (.code y cb mL none)) (hlk : va_Nw (.methodLinkNest own index y "TideMen") s ∨ (Cond.methodLink own index y).before args s = true) (hy1 : y.name = "<init>") (hd : y.cls ≠ "java/lang/invoke/MethodHandle" ∧ y.cls ≠ "java/lang/invoke/VarHandle" ∧ (parseMethodDescriptor y.desc).map (fun d => d.parameters.length) = some n) (hR : rm.frames + 1 ≤ R.frames ∧ 8 + (mL + 11) + rm.locals ≤ R.locals) (hrc : rm.cells = mc) (hrs : rm.slots = ms) (hn : As.length = n) (hsz : ls.size = nL) (hst : (rest.map fun v => v.category).sum ≤ 8)
    (hP : va_P D vwCl ws H) (hD : va_D A ws) (hS : va_S A H0 H locs) (hA : ∀ q, H0.size ≤ q → A q) (hk : ws[k]? = some (h0, .inr (ci, fs))) (hRr : isR.map (fun i => ws[i]?) = wr.map some) (hnd : va_nd isR = true) (hdis : ∀ i ∈ isR, i ∉ [k]) (hcs : cells + mc ≤ R.cells ∧ slots + ms ≤ R.slots) (hdg : decode cc pc = .ok (.invokespecial index, 3)) {st : List Value} (hst0 : st = As.reverse ++ .ref h0 :: rest)
    (kk : ∀ (g : Nat → Nat) (H1 : Heap) (locs1 : List Loc), va_P D vwCl (wr ++ W1 g) H1 → va_D A (wr ++ W1 g) → va_S A H0 H1 locs1 → W p l e R s m args below meth c H1 locs1 (cells + mc) (slots + ms) Q (F0 m (pc + 3) ls rest)) : W p l e R s m args below meth c H locs cells slots Q (F0 m pc ls st) := by
  subst hst0
  have hK := X.2.2.2.2.2
  have hts := X.2.2.2.2.1
  have hC : [k].map (fun i => ws[i]?) = [(h0, (.inr (ci, fs) : va_E))].map some := by
    simp only [List.map_cons, List.map_nil, hk]
  have hPc : va_P D vwCl [(h0, .inr (ci, fs))] H := hP.sub [k] (by simp only [List.filterMap_cons, List.filterMap_nil, hk])
  have hDc : va_D (fun _ => True) [(h0, (.inr (ci, fs) : va_E))] := ⟨fun i j p q hi hj _ => by
    have h1 : i < 1 := (List.getElem?_eq_some_iff.mp hi).1
    have h2 : j < 1 := (List.getElem?_eq_some_iff.mp hj).1
    omega, fun _ _ _ => trivial⟩
  have hFc := va_free (wc := [(h0, .inr (ci, fs))]) hD hS hA [k] hC
  have hcd := gw X C hcode rfl
  have hg := wsI_good (List.mem_of_getElem? hcode)
  have hpre : PreS s H (va_Pc (.ref h0 :: As) (fun U => U.heap.size = H.size ∧ va_P D vwCl [(h0, .inr (ci, fs))] U.heap ∧ va_K D vwCl (tysO tc) U ∧ va_D (fun _ => True) [(h0, .inr (ci, fs))] ∧ V U)) (.ref h0 :: As) := ⟨fun a U g mk q => by
    obtain ⟨q0, q1, q2, q3, q4, q5⟩ := q
    exact ⟨q0, q1, q2, va_K.moved (u := U) (U := U.calling g mk a) (Vm.Alike.refl U.vm) q3, q4, hVc U g mk a q5⟩, fun U hU hW => ⟨rfl, by rw [hU], by rw [hU]; exact hPc, va_K.moved hW.alike hK, hDc, hV U hW⟩⟩
  rcases hlk with hl2 | hl2
  · refine va_callv (va_runIN (As := As) (rest := rest) ⟨X.1, X.2.1, X.2.2.1, X.2.2.2.1, hts⟩ (M H.size) ⟨va_cnB n hts hg rfl hrc hrs hl2 (gw X J hini rfl) hd hR, hy1, gw X K hinst rfl⟩ hpre rfl hn hsz rfl (lv_room hst) hdg hcs) hS (fun q _ h => hFc q h) hFc (fun g t H1 locs1 ht hvm _ hB hz1 hk1 hS1 => ?_)
    obtain ⟨hP1, hD1⟩ := hB
    rw [ht] at hP1
    obtain ⟨j1, j2⟩ := va_join hP hD [k] isR hC hRr hnd hdis hk1 hFc hP1 hD1
    exact kk g H1 locs1 j1 j2 hS1
  · refine va_callv (va_runI (As := As) (rest := rest) ⟨X.1, X.2.1, X.2.2.1, X.2.2.2.1, hts⟩ (M H.size) (cwI n hts hg rfl hrc hrs (gw X J hini rfl) hl2 (gw X K hinst rfl) hy1 hd hR) hpre rfl hn hsz rfl (lv_room hst) hdg hcs) hS (fun q _ h => hFc q h) hFc (fun g t H1 locs1 ht hvm _ hB hz1 hk1 hS1 => ?_)
    obtain ⟨hP1, hD1⟩ := hB
    rw [ht] at hP1
    obtain ⟨j1, j2⟩ := va_join hP hD [k] isR hC hRr hnd hdis hk1 hFc hP1 hD1
    exact kk g H1 locs1 j1 j2 hS1
end CON
