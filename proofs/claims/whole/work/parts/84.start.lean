/-! THE CLAIM OUT OF ONE WALK OF THE LAW'S BODY. Your part is whole_start (and what it stands on); all else here is the same for every law, but numbers. -/
def R_law : String := "TideMenLaw"
def lw_P (b : Addr) (xs : List Int32) (args : Array Value) (s : State) : Prop := args = #[.ref b] ∧ s.IntsAt b xs ∧ xs.length ≤ 3072 ∧ (Jvm.Cond.and given_1 narrow_1).before args s = true
def lw_Q (_ : Array Value) (s : State) (o : Outcome) (t : State) : Prop := o = .returned (some (.int 1)) ∧ Framed s o t [] 600000 7302250
def lw_Z (below : List Frame) (a : Array Value) (s : State) : State → Prop := fun t => ∃ o, t.status = .running ∧ Ended t below o ∧ lw_Q a s o t
/-- the law's own end, with 1 on the stack, nothing written that was there before, its room as the claim has it -/
theorem lw_ret {p : Program} {l : Launch} {e : Env} {s : State} {m : MethodId} {below : List Frame} {meth : Method} {c : Code} {b : Nat} (hx : p.tables.exec = Jvm.exec) (hb : c.code = code) (hr : meth.sig.returnType = ret) (hlocks : meth.locks = false) {pc : Nat} {H : Heap} {ls : Array Slot} (hdg : decode code pc = .ok (.ireturn, 1)) : W p l e room_1 s m #[Value.ref b] below meth c H [] 600000 7302250 (lw_Z below #[Value.ref b] s) (F0 m pc ls [.int 1]) := by
  intro T hT X
  obtain ⟨fs, hret, hrun, hended, hW, hframe⟩ := X.leave (v := some (.int 1)) (hlocks := hlocks) (fun h => by rw [hr] at h; cases h)
  have hmeth' : T.vm.method? m = some meth := X.method'
  refine ⟨T.setFrames fs, ?_, .returned (some (.int 1)), hrun, hended, rfl, ⟨_, rfl⟩, hW, hframe⟩
  jvm_step X.here [X.here.top, hx, hb, hdg, hmeth', hr, ret, narrow_b1]
  (try refine ⟨rfl, ?_⟩); (try refine ⟨rfl, ?_⟩)
  first | (intro acts; rw [hret _ acts rfl rfl rfl]) | rw [hret _ _ rfl rfl rfl]
  exact Steps.refl _
/-- what holds at the law's entry: the machine, the code, the tables' words (any of lw_tbl by 'hts w (by decide +kernel)'), the script of L ints xs at the cell b, what the Statement gives of the start (any of its parts by flat_of_before) -/
def lw_At (p : Program) (s : State) (m : MethodId) (meth : Method) (c : Code) (b L : Nat) (xs : Nat → Int32) : Prop :=
  p.tables.exec = Jvm.exec ∧ c.code = code ∧ meth.sig.returnType = ret ∧ c.maxLocals = 4 ∧ s.vm.findClass R_law = some m.cls ∧ (∀ w ∈ lw_tbl, w.before #[Value.ref b] s = true) ∧ va_X b L xs s s.heap ∧ b < s.heap.size ∧ meth.locks = false ∧ (Jvm.Cond.and given_1 narrow_1).before #[Value.ref b] s = true
set_option maxHeartbeats 4000000 in
set_option maxRecDepth 100000 in
theorem whole_start {p : Program} {e : Env} {s : State} {m : MethodId} {below : List Frame} {meth : Method} {c : Code} (l : Launch) (hflags : l.flags = flags0) {b L : Nat} {xs : Nat → Int32} (hL : L ≤ 3072) (C0 : lw_At p s m meth c b L xs) : W p l e room_1 s m #[Value.ref b] below meth c s.heap [] 0 0 (lw_Z below #[Value.ref b] s) (entryFrame m ([Value.ref b] : List Value).toArray 4) := by
  obtain ⟨hx, hb, hr, hml, hown, hts, hX, hbl, hlocks, hgv⟩ := id C0
  have hnA : ∀ a : Nat, a < s.heap.size → ¬ (fun q : Nat => s.heap.size ≤ q) a := fun a h => Nat.not_le.mpr h
  obtain ⟨D, tc, hK⟩ := b_K hts
  obtain ⟨kK, kV, hvk, hev⟩ := b_S hgv hnA
  obtain ⟨hz1, nu, hnu, hz2⟩ := b_Z hts hgv hnA
  obtain ⟨r0, r1, r2, r3⟩ := b_R hts hev
  obtain ⟨n1, n2, n3, n4, n5, n6, n7⟩ := b_N hts
  have X : Cx p s m #[Value.ref b] c cL_law 4 "TideMenLaw" D tc := ⟨hx, hb, hml, hown, fun w hw => hts w (List.mem_filter.mp hw).1, hK⟩
  have hl := lv_entry ([.ref b]) (n := 4) (Nat.le_of_ble_eq_true rfl)
  rw [lg_entry_eq]
  generalize (lg_sl ([.ref b]) ++ List.replicate (4 - (lg_sl ([.ref b])).length) Slot.unset).toArray = ls at hl ⊢
  refine b_walk (a0 := kK 0) (a1 := kK 1) (a2 := kK 2) (A := fun q => s.heap.size ≤ q) X (fun _ h => h) ⟨n1, n2, n3, n4, n5, n6, r0, r1, r2⟩ (show lv_has ls 4 [(0, .ref b)] from hl) (fun q5 q6 g h H locs ls hP hD hS hl => ?_)
  have hP : va_P D vwCl (Wjo tc q5 q6 (kK 0) (kK 1) (kK 2) g h) H := hP
  have hD : va_D (fun q => s.heap.size ≤ q) (Wjo tc q5 q6 (kK 0) (kK 1) (kK 2) g h) := hD
  have hP2 := re_P (b := b) (kV := kV) hP
  obtain ⟨hinj, hAk⟩ := re_D (b := b) (kV := kV) hD
  have e1 : ∀ i, i < 4 → adF q5 q6 b kK kV g h (104 + 2 * i) = kK i ∧ adF q5 q6 b kK kV g h (105 + 2 * i) = kV i := fun i hi => match i, hi with
    | 0, _ => ⟨rfl, rfl⟩
    | 1, _ => ⟨rfl, rfl⟩
    | 2, _ => ⟨rfl, rfl⟩
    | 3, _ => ⟨rfl, rfl⟩
    | i + 4, hi => absurd hi (by omega)
  have hvk2 : vk_S 4 (strL.map List.length) strL (fun i => adF q5 q6 b kK kV g h (104 + 2 * i)) (fun i => adF q5 q6 b kK kV g h (105 + 2 * i)) (fun q => s.heap.size ≤ q) s s.heap := by
    refine ⟨fun i hi => ?_, fun i j hi hj e => ?_⟩
    · dsimp only
      rw [(e1 i hi).1, (e1 i hi).2]
      exact hvk.1 i hi
    · dsimp only at e
      rw [(e1 i hi).1, (e1 j hj).1] at e
      exact hvk.2 i j hi hj e
  have Xf : Wfx (adF q5 q6 b kK kV g h) nu tc D b L xs (fun q => s.heap.size ≤ q) s := ⟨hnu, hinj, hAk, hK, hvk2, r3, hz1, hz2, n7, hX, hnA b hbl, rfl⟩
  have F : Frm p s m #[Value.ref b] c 193 := ⟨hx, hb, hml, hown, fun w hw _ => hts w hw⟩
  obtain ⟨r, mE, ⟨n, hE⟩, hr1⟩ := law_all (S := (L, xs)) hL bs0 ca0
  subst hr1
  refine W.widen (k := 600000) (n := 7302250) (Nat.le_of_ble_eq_true rfl) (Nat.le_of_ble_eq_true rfl) ?_
  refine W_all (f0 := 12) (st := []) F Xf ⟨Nat.le_of_ble_eq_true rfl, Nat.le_of_ble_eq_true rfl, Nat.le_of_ble_eq_true rfl, Nat.le_of_ble_eq_true rfl⟩ (fun q av mm r m' h1 h2 h3 => ⟨⟨Nat.le_of_ble_eq_true rfl, Nat.le_of_ble_eq_true rfl⟩, ev_met 12 q av mm r m' h1 h2 h3⟩) ?_ n 18 _ m0 hE ls H locs (lv_sub hl [3, 2, 1, 0] rfl) rfl hP2 hS
  intro pc H1 locs1 arr ls1 st1 i len hd hs hP3 hS3
  rcases sx_ret hs with ⟨rfl, rfl, x, ty, rfl, h3, h4, h5⟩ | ⟨rfl, rfl, x, rfl, h3, h5⟩ | ⟨rfl, rfl, x, nm, rfl, h3, h5⟩ | ⟨rfl, rfl, rfl, h3, h5⟩
  · cases h5
    refine va_forget (fun q hq => hS3.2.2 q hq) ?_
    exact lw_ret hx hb hr hlocks hd
  · cases h5
  · cases h5
  · cases h5
