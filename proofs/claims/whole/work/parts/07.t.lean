/-! runs of the pure machine -/
def ent (q : Nat) (args : List Value) : ALoc := entL args ++ List.replicate (mtM q - (entL args).length) none
def pu (r : Option Value) (st : List Value) : List Value := match r with
  | some v => v :: st
  | none => st
theorem pu_some (v : Value) (st : List Value) : pu (some v) st = v :: st := rfl
theorem pu_none (st : List Value) : pu none st = st := rfl
def Evn (S : AScr) (C : Nat → List Value → AMem → Option Value → AMem → Prop) (mu : Nat) : Nat → Nat → ALoc → List Value → AMem → Option Value → AMem → Prop
  | 0, _, _, _, _, _, _ => False
  | n + 1, pc, ls, st, m, r, m' => ∃ i len, decode (mtC mu) pc = .ok (i, len) ∧ match sx S mu i len pc ls st m with
    | none => False
    | some (.inl (pc2, ls2, st2, m2)) => Evn S C mu n pc2 ls2 st2 m2 r m'
    | some (.inr (.inl r2)) => r2 = r ∧ m = m'
    | some (.inr (.inr (q, args, rest))) => ∃ r1 m1, C q args m r1 m1 ∧ Evn S C mu n (pc + 3) ls (pu r1 rest) m1 r m'
def Ev (S : AScr) : Nat → Nat → Nat → ALoc → List Value → AMem → Option Value → AMem → Prop
  | 0 => fun _ _ _ _ _ _ _ => False
  | f + 1 => fun mu pc ls st m r m' => ∃ n, Evn S (fun q args m r m' => Ev S f q 0 (ent q args) [] m r m') mu n pc ls st m r m'
/-- from here on the run ends, with an answer and a memory of which Rt holds -/
def T (S : AScr) (f mu pc : Nat) (ls : ALoc) (st : List Value) (m : AMem) (Rt : Option Value → AMem → Prop) : Prop := ∃ r m', Ev S f mu pc ls st m r m' ∧ Rt r m'
section TS
variable {S : AScr} {f mu pc len : Nat} {ls ls2 : ALoc} {st st2 : List Value} {m m2 : AMem} {Rt : Option Value → AMem → Prop} {i : Instr} {pc2 : Nat}
theorem T_n (h : decode (mtC mu) pc = .ok (i, len)) (hs : sx S mu i len pc ls st m = some (.inl (pc2, ls2, st2, m2))) : T S (f + 1) mu pc ls st m Rt = T S (f + 1) mu pc2 ls2 st2 m2 Rt := by
  refine propext ⟨fun ⟨r, m', ⟨n, hn⟩, hR⟩ => ?_, fun ⟨r, m', ⟨n, hn⟩, hR⟩ => ⟨r, m', ⟨n + 1, i, len, h, by rw [hs]; exact hn⟩, hR⟩⟩
  cases n with
  | zero => exact hn.elim
  | succ n =>
    obtain ⟨i', len', h', hn⟩ := hn
    cases h.symm.trans h'
    rw [hs] at hn
    exact ⟨r, m', ⟨n, hn⟩, hR⟩
theorem T_r {r2 : Option Value} (h : decode (mtC mu) pc = .ok (i, len)) (hs : sx S mu i len pc ls st m = some (.inr (.inl r2))) : T S (f + 1) mu pc ls st m Rt = Rt r2 m := by
  refine propext ⟨fun ⟨r, m', ⟨n, hn⟩, hR⟩ => ?_, fun hR => ⟨r2, m, ⟨1, i, len, h, by rw [hs]; exact ⟨rfl, rfl⟩⟩, hR⟩⟩
  cases n with
  | zero => exact hn.elim
  | succ n =>
    obtain ⟨i', len', h', hn⟩ := hn
    cases h.symm.trans h'
    rw [hs] at hn
    obtain ⟨rfl, rfl⟩ := hn
    exact hR
theorem T_c {q : Nat} {args rest : List Value} (h : decode (mtC mu) pc = .ok (i, len)) (hs : sx S mu i len pc ls st m = some (.inr (.inr (q, args, rest)))) : T S (f + 1) mu pc ls st m Rt = T S f q 0 (ent q args) [] m (fun r1 m1 => T S (f + 1) mu (pc + 3) ls (pu r1 rest) m1 Rt) := by
  refine propext ⟨fun ⟨r, m', ⟨n, hn⟩, hR⟩ => ?_, fun ⟨r1, m1, hc, r, m', ⟨n, hn⟩, hR⟩ => ⟨r, m', ⟨n + 1, i, len, h, by rw [hs]; exact ⟨r1, m1, hc, hn⟩⟩, hR⟩⟩
  cases n with
  | zero => exact hn.elim
  | succ n =>
    obtain ⟨i', len', h', hn⟩ := hn
    cases h.symm.trans h'
    rw [hs] at hn
    obtain ⟨r1, m1, hc, hn⟩ := hn
    exact ⟨r1, m1, hc, r, m', ⟨n, hn⟩, hR⟩
theorem T_x (h : decode (mtC mu) pc = .ok (i, len)) (hs : sx S mu i len pc ls st m = none) : T S (f + 1) mu pc ls st m Rt = False := by
  refine propext ⟨fun ⟨r, m', ⟨n, hn⟩, hR⟩ => ?_, False.elim⟩
  cases n with
  | zero => exact hn.elim
  | succ n =>
    obtain ⟨i', len', h', hn⟩ := hn
    cases h.symm.trans h'
    rw [hs] at hn
    exact hn
/-- a step under a condition -/
theorem T_g {g : Bool} (h : decode (mtC mu) pc = .ok (i, len)) (hs : sx S mu i len pc ls st m = if g = true then nx pc2 ls2 st2 m2 else none) : T S (f + 1) mu pc ls st m Rt = (g = true ∧ T S (f + 1) mu pc2 ls2 st2 m2 Rt) := by
  cases g with
  | true =>
    rw [T_n h (by rw [hs]; rfl)]
    simp
  | false =>
    rw [T_x h (by rw [hs]; rfl)]
    simp
theorem T_gp {g : Prop} [Decidable g] (h : decode (mtC mu) pc = .ok (i, len)) (hs : sx S mu i len pc ls st m = if g then nx pc2 ls2 st2 m2 else none) : T S (f + 1) mu pc ls st m Rt = (g ∧ T S (f + 1) mu pc2 ls2 st2 m2 Rt) := by
  by_cases hg : g
  · rw [T_n h (by rw [hs, if_pos hg]; rfl)]
    simp [hg]
  · rw [T_x h (by rw [hs, if_neg hg])]
    simp [hg]
theorem T_gn {g : Prop} [Decidable g] (h : decode (mtC mu) pc = .ok (i, len)) (hs : sx S mu i len pc ls st m = if g then none else nx pc2 ls2 st2 m2) : T S (f + 1) mu pc ls st m Rt = (¬ g ∧ T S (f + 1) mu pc2 ls2 st2 m2 Rt) := by
  by_cases hg : g
  · rw [T_x h (by rw [hs, if_pos hg])]
    simp [hg]
  · rw [T_n h (by rw [hs, if_neg hg]; rfl)]
    simp [hg]
theorem T_rp {g : Prop} [Decidable g] {r2 : Option Value} (h : decode (mtC mu) pc = .ok (i, len)) (hs : sx S mu i len pc ls st m = if g then some (.inr (.inl r2)) else none) : T S (f + 1) mu pc ls st m Rt = (g ∧ Rt r2 m) := by
  by_cases hg : g
  · rw [T_r h (by rw [hs, if_pos hg])]
    simp [hg]
  · rw [T_x h (by rw [hs, if_neg hg])]
    simp [hg]
/-- a branch -/
theorem T_b {c : Prop} [Decidable c] {t e : Nat} (h : decode (mtC mu) pc = .ok (i, len)) (hs : sx S mu i len pc ls st m = nx (bif decide c then t else e) ls2 st2 m2) : T S (f + 1) mu pc ls st m Rt = if c then T S (f + 1) mu t ls2 st2 m2 Rt else T S (f + 1) mu e ls2 st2 m2 Rt := by
  by_cases hc : c
  · rw [if_pos hc, T_n h (pc2 := t) (ls2 := ls2) (st2 := st2) (m2 := m2) (by rw [hs]; simp [hc, nx])]
  · rw [if_neg hc, T_n h (pc2 := e) (ls2 := ls2) (st2 := st2) (m2 := m2) (by rw [hs]; simp [hc, nx])]
theorem T_bn {c : Prop} [Decidable c] {t e : Nat} (h : decode (mtC mu) pc = .ok (i, len)) (hs : sx S mu i len pc ls st m = nx (bif !decide c then t else e) ls2 st2 m2) : T S (f + 1) mu pc ls st m Rt = if c then T S (f + 1) mu e ls2 st2 m2 Rt else T S (f + 1) mu t ls2 st2 m2 Rt := by
  by_cases hc : c
  · rw [if_pos hc, T_n h (pc2 := e) (ls2 := ls2) (st2 := st2) (m2 := m2) (by rw [hs]; simp [hc, nx])]
  · rw [if_neg hc, T_n h (pc2 := t) (ls2 := ls2) (st2 := st2) (m2 := m2) (by rw [hs]; simp [hc, nx])]
theorem T_mono {R2 : Option Value → AMem → Prop} (h : T S f mu pc ls st m Rt) (hR : ∀ r m', Rt r m' → R2 r m') : T S f mu pc ls st m R2 := by
  obtain ⟨r, m', h1, h2⟩ := h
  exact ⟨r, m', h1, hR r m' h2⟩
end TS
/-- samples -/
theorem u_try1 {S : AScr} {f : Nat} {m : AMem} {Rt : Option Value → AMem → Prop} {x y : Int32} {st : List Value} {ls : ALoc} : T S (f + 1) 32 0 (some (.int x) :: ls) st m Rt = T S (f + 1) 32 1 (some (.int x) :: ls) (.int x :: st) m Rt := T_n dX5_isOneOf_0 rfl
