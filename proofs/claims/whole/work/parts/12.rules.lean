/-! rules of the pure machine, one an instruction: the schemes -/
section RU
variable {S : AScr} {f mu pc : Nat} {ls ls2 : ALoc} {st : List Value} {m : AMem} {Rt : Option Value → AMem → Prop} {cc : ByteArray}
theorem R_ic {n : Int} {v : Int32} (hc : mtC mu = cc) (h : decode cc pc = .ok (.iconst n, 1)) (hv : Int32.ofInt n = v) : T S (f + 1) mu pc ls st m Rt = T S (f + 1) mu (pc + 1) ls (.int v :: st) m Rt := by
  subst hc; subst hv
  exact T_n h rfl
theorem R_bi {n : Int} {v : Int32} (hc : mtC mu = cc) (h : decode cc pc = .ok (.bipush n, 2)) (hv : (Int8.ofInt n).toInt32 = v) : T S (f + 1) mu pc ls st m Rt = T S (f + 1) mu (pc + 2) ls (.int v :: st) m Rt := by
  subst hc; subst hv
  exact T_n h rfl
theorem R_si {n : Int} {v : Int32} (hc : mtC mu = cc) (h : decode cc pc = .ok (.sipush n, 3)) (hv : (Int16.ofInt n).toInt32 = v) : T S (f + 1) mu pc ls st m Rt = T S (f + 1) mu (pc + 3) ls (.int v :: st) m Rt := by
  subst hc; subst hv
  exact T_n h rfl
theorem R_lc {n : Fin 2} {v : Int64} (hc : mtC mu = cc) (h : decode cc pc = .ok (.lconst n, 1)) (hv : Int64.ofNat n = v) : T S (f + 1) mu pc ls st m Rt = T S (f + 1) mu (pc + 1) ls (.long v :: st) m Rt := by
  subst hc; subst hv
  exact T_n h rfl
theorem R_ldc {ci idx pl : Nat} {v : Int32} (hc : mtC mu = cc) (hk : mtK mu = ci) (h : decode cc pc = .ok (.ldc idx, 2)) (hv : cst ci idx = some (v, pl)) : T S (f + 1) mu pc ls st m Rt = T S (f + 1) mu (pc + 2) ls (.int v :: st) m Rt := by
  subst hc; subst hk
  refine T_n h ?_
  simp only [sx, if_true, hv]
  rfl
theorem R_ldw {ci idx pl : Nat} {v : Int32} (hc : mtC mu = cc) (hk : mtK mu = ci) (h : decode cc pc = .ok (.ldc_w idx, 3)) (hv : cst ci idx = some (v, pl)) : T S (f + 1) mu pc ls st m Rt = T S (f + 1) mu (pc + 3) ls (.int v :: st) m Rt := by
  subst hc; subst hk
  refine T_n h ?_
  simp only [sx, if_true, hv]
  rfl
theorem R_ld2 {ci idx pl : Nat} {v : Int64} (hc : mtC mu = cc) (hk : mtK mu = ci) (h : decode cc pc = .ok (.ldc2_w idx, 3)) (hv : csl ci idx = some (v, pl)) : T S (f + 1) mu pc ls st m Rt = T S (f + 1) mu (pc + 3) ls (.long v :: st) m Rt := by
  subst hc; subst hk
  refine T_n h ?_
  simp only [sx, if_true, hv]
  rfl
theorem R_ldS (hc : mtC mu = cc) (hk : mtK mu = 3) (h : decode cc pc = .ok (.ldc 51, 2)) (hv : cst 3 51 = none) : T S (f + 1) mu pc ls st m Rt = T S (f + 1) mu (pc + 2) ls (.ref 110 :: st) m Rt := by
  subst hc
  refine T_n h ?_
  simp only [sx, if_true, hk, hv]
  rfl
theorem R_il_n {k : Fin 4} {x : Int32} (hc : mtC mu = cc) (h : decode cc pc = .ok (.iload_n k, 1)) (hg : lg ls k = some (.int x)) : T S (f + 1) mu pc ls st m Rt = T S (f + 1) mu (pc + 1) ls (.int x :: st) m Rt := by
  subst hc
  refine T_n h ?_
  simp only [sx, sxA, if_true, hg]
  rfl
theorem R_il {k : Nat} {x : Int32} (hc : mtC mu = cc) (h : decode cc pc = .ok (.iload k, 2)) (hg : lg ls k = some (.int x)) : T S (f + 1) mu pc ls st m Rt = T S (f + 1) mu (pc + 2) ls (.int x :: st) m Rt := by
  subst hc
  refine T_n h ?_
  simp only [sx, sxA, if_true, hg]
  rfl
theorem R_ll_n {k : Fin 4} {x : Int64} (hc : mtC mu = cc) (h : decode cc pc = .ok (.lload_n k, 1)) (hg : lg ls k = some (.long x)) : T S (f + 1) mu pc ls st m Rt = T S (f + 1) mu (pc + 1) ls (.long x :: st) m Rt := by
  subst hc
  refine T_n h ?_
  simp only [sx, sxA, if_true, hg]
  rfl
theorem R_ll {k : Nat} {x : Int64} (hc : mtC mu = cc) (h : decode cc pc = .ok (.lload k, 2)) (hg : lg ls k = some (.long x)) : T S (f + 1) mu pc ls st m Rt = T S (f + 1) mu (pc + 2) ls (.long x :: st) m Rt := by
  subst hc
  refine T_n h ?_
  simp only [sx, sxA, if_true, hg]
  rfl
theorem R_al_n {k : Fin 4} {x : Nat} (hc : mtC mu = cc) (h : decode cc pc = .ok (.aload_n k, 1)) (hg : lg ls k = some (.ref x)) : T S (f + 1) mu pc ls st m Rt = T S (f + 1) mu (pc + 1) ls (.ref x :: st) m Rt := by
  subst hc
  refine T_n h ?_
  simp only [sx, sxA, if_true, hg]
  rfl
theorem R_al {k : Nat} {x : Nat} (hc : mtC mu = cc) (h : decode cc pc = .ok (.aload k, 2)) (hg : lg ls k = some (.ref x)) : T S (f + 1) mu pc ls st m Rt = T S (f + 1) mu (pc + 2) ls (.ref x :: st) m Rt := by
  subst hc
  refine T_n h ?_
  simp only [sx, sxA, if_true, hg]
  rfl
theorem R_is_n {k : Fin 4} {x : Int32} (hc : mtC mu = cc) (h : decode cc pc = .ok (.istore_n k, 1)) (hl : Nat.blt k ls.length = true) (hp : lpre ls k = true) (he : lset ls k (some (.int x)) = ls2) : T S (f + 1) mu pc ls (.int x :: st) m Rt = T S (f + 1) mu (pc + 1) ls2 st m Rt := by
  subst hc; subst he
  refine T_n h ?_
  simp only [sx, sxS, if_true, hl, hp, Bool.and_self]
  rfl
theorem R_is {k : Nat} {x : Int32} (hc : mtC mu = cc) (h : decode cc pc = .ok (.istore k, 2)) (hl : Nat.blt k ls.length = true) (hp : lpre ls k = true) (he : lset ls k (some (.int x)) = ls2) : T S (f + 1) mu pc ls (.int x :: st) m Rt = T S (f + 1) mu (pc + 2) ls2 st m Rt := by
  subst hc; subst he
  refine T_n h ?_
  simp only [sx, sxS, if_true, hl, hp, Bool.and_self]
  rfl
theorem R_as_n {k : Fin 4} {x : Nat} (hc : mtC mu = cc) (h : decode cc pc = .ok (.astore_n k, 1)) (hl : Nat.blt k ls.length = true) (hp : lpre ls k = true) (he : lset ls k (some (.ref x)) = ls2) : T S (f + 1) mu pc ls (.ref x :: st) m Rt = T S (f + 1) mu (pc + 1) ls2 st m Rt := by
  subst hc; subst he
  refine T_n h ?_
  simp only [sx, sxS, if_true, hl, hp, Bool.and_self]
  rfl
theorem R_as {k : Nat} {x : Nat} (hc : mtC mu = cc) (h : decode cc pc = .ok (.astore k, 2)) (hl : Nat.blt k ls.length = true) (hp : lpre ls k = true) (he : lset ls k (some (.ref x)) = ls2) : T S (f + 1) mu pc ls (.ref x :: st) m Rt = T S (f + 1) mu (pc + 2) ls2 st m Rt := by
  subst hc; subst he
  refine T_n h ?_
  simp only [sx, sxS, if_true, hl, hp, Bool.and_self]
  rfl
theorem R_ls_n {k : Fin 4} {x : Int64} (hc : mtC mu = cc) (h : decode cc pc = .ok (.lstore_n k, 1)) (hl : Nat.blt (k + 1) ls.length = true) (hp : lpre ls k = true) (he : lset (lset ls k (some (.long x))) (k + 1) none = ls2) : T S (f + 1) mu pc ls (.long x :: st) m Rt = T S (f + 1) mu (pc + 1) ls2 st m Rt := by
  subst hc; subst he
  refine T_n h ?_
  simp only [sx, sxS2, if_true, hl, hp, Bool.and_self]
  rfl
theorem R_ls {k : Nat} {x : Int64} (hc : mtC mu = cc) (h : decode cc pc = .ok (.lstore k, 2)) (hl : Nat.blt (k + 1) ls.length = true) (hp : lpre ls k = true) (he : lset (lset ls k (some (.long x))) (k + 1) none = ls2) : T S (f + 1) mu pc ls (.long x :: st) m Rt = T S (f + 1) mu (pc + 2) ls2 st m Rt := by
  subst hc; subst he
  refine T_n h ?_
  simp only [sx, sxS2, if_true, hl, hp, Bool.and_self]
  rfl
theorem R_ii {k : Nat} {n : Int} {v x : Int32} (hc : mtC mu = cc) (h : decode cc pc = .ok (.iinc k n, 3)) (hv : Int32.ofInt n = v) (hg : lg ls k = some (.int x)) (hl : Nat.blt k ls.length = true) (hp : lpre ls k = true) (he : lset ls k (some (.int (x + v))) = ls2) : T S (f + 1) mu pc ls st m Rt = T S (f + 1) mu (pc + 3) ls2 st m Rt := by
  subst hc; subst hv; subst he
  refine T_n h ?_
  simp only [sx, sxS, if_true, hg, hl, hp, Bool.and_self]
  rfl
theorem R_iadd {x y : Int32} (hc : mtC mu = cc) (h : decode cc pc = .ok (.iadd, 1)) : T S (f + 1) mu pc ls (.int y :: .int x :: st) m Rt = T S (f + 1) mu (pc + 1) ls (.int (x + y) :: st) m Rt := by
  subst hc
  exact T_n h rfl
theorem R_isub {x y : Int32} (hc : mtC mu = cc) (h : decode cc pc = .ok (.isub, 1)) : T S (f + 1) mu pc ls (.int y :: .int x :: st) m Rt = T S (f + 1) mu (pc + 1) ls (.int (x - y) :: st) m Rt := by
  subst hc
  exact T_n h rfl
theorem R_imul {x y : Int32} (hc : mtC mu = cc) (h : decode cc pc = .ok (.imul, 1)) : T S (f + 1) mu pc ls (.int y :: .int x :: st) m Rt = T S (f + 1) mu (pc + 1) ls (.int (x * y) :: st) m Rt := by
  subst hc
  exact T_n h rfl
theorem R_iand {x y : Int32} (hc : mtC mu = cc) (h : decode cc pc = .ok (.iand, 1)) : T S (f + 1) mu pc ls (.int y :: .int x :: st) m Rt = T S (f + 1) mu (pc + 1) ls (.int (x &&& y) :: st) m Rt := by
  subst hc
  exact T_n h rfl
theorem R_ior {x y : Int32} (hc : mtC mu = cc) (h : decode cc pc = .ok (.ior, 1)) : T S (f + 1) mu pc ls (.int y :: .int x :: st) m Rt = T S (f + 1) mu (pc + 1) ls (.int (x ||| y) :: st) m Rt := by
  subst hc
  exact T_n h rfl
theorem R_ixor {x y : Int32} (hc : mtC mu = cc) (h : decode cc pc = .ok (.ixor, 1)) : T S (f + 1) mu pc ls (.int y :: .int x :: st) m Rt = T S (f + 1) mu (pc + 1) ls (.int (x ^^^ y) :: st) m Rt := by
  subst hc
  exact T_n h rfl
theorem R_ishl {x y : Int32} (hc : mtC mu = cc) (h : decode cc pc = .ok (.ishl, 1)) : T S (f + 1) mu pc ls (.int y :: .int x :: st) m Rt = T S (f + 1) mu (pc + 1) ls (.int (x <<< (y &&& 31)) :: st) m Rt := by
  subst hc
  exact T_n h rfl
theorem R_ishr {x y : Int32} (hc : mtC mu = cc) (h : decode cc pc = .ok (.ishr, 1)) : T S (f + 1) mu pc ls (.int y :: .int x :: st) m Rt = T S (f + 1) mu (pc + 1) ls (.int (x >>> (y &&& 31)) :: st) m Rt := by
  subst hc
  exact T_n h rfl
theorem R_iushr {x y : Int32} (hc : mtC mu = cc) (h : decode cc pc = .ok (.iushr, 1)) : T S (f + 1) mu pc ls (.int y :: .int x :: st) m Rt = T S (f + 1) mu (pc + 1) ls (.int ((x.toUInt32 >>> (y.toUInt32 &&& Int32.toUInt32 31)).toInt32) :: st) m Rt := by
  subst hc
  exact T_n h rfl
theorem R_ladd {x y : Int64} (hc : mtC mu = cc) (h : decode cc pc = .ok (.ladd, 1)) : T S (f + 1) mu pc ls (.long y :: .long x :: st) m Rt = T S (f + 1) mu (pc + 1) ls (.long (x + y) :: st) m Rt := by
  subst hc
  exact T_n h rfl
theorem R_lsub {x y : Int64} (hc : mtC mu = cc) (h : decode cc pc = .ok (.lsub, 1)) : T S (f + 1) mu pc ls (.long y :: .long x :: st) m Rt = T S (f + 1) mu (pc + 1) ls (.long (x - y) :: st) m Rt := by
  subst hc
  exact T_n h rfl
theorem R_lmul {x y : Int64} (hc : mtC mu = cc) (h : decode cc pc = .ok (.lmul, 1)) : T S (f + 1) mu pc ls (.long y :: .long x :: st) m Rt = T S (f + 1) mu (pc + 1) ls (.long (x * y) :: st) m Rt := by
  subst hc
  exact T_n h rfl
theorem R_idiv {x y : Int32} (hc : mtC mu = cc) (h : decode cc pc = .ok (.idiv, 1)) : T S (f + 1) mu pc ls (.int y :: .int x :: st) m Rt = (¬ y = 0 ∧ T S (f + 1) mu (pc + 1) ls (.int (x / y) :: st) m Rt) := by
  subst hc
  exact T_gn h rfl
theorem R_irem {x y : Int32} (hc : mtC mu = cc) (h : decode cc pc = .ok (.irem, 1)) : T S (f + 1) mu pc ls (.int y :: .int x :: st) m Rt = (¬ y = 0 ∧ T S (f + 1) mu (pc + 1) ls (.int (x - x / y * y) :: st) m Rt) := by
  subst hc
  exact T_gn h rfl
theorem R_ldiv {x y : Int64} (hc : mtC mu = cc) (h : decode cc pc = .ok (.ldiv, 1)) : T S (f + 1) mu pc ls (.long y :: .long x :: st) m Rt = (¬ y = 0 ∧ T S (f + 1) mu (pc + 1) ls (.long (x / y) :: st) m Rt) := by
  subst hc
  exact T_gn h rfl
theorem R_lrem {x y : Int64} (hc : mtC mu = cc) (h : decode cc pc = .ok (.lrem, 1)) : T S (f + 1) mu pc ls (.long y :: .long x :: st) m Rt = (¬ y = 0 ∧ T S (f + 1) mu (pc + 1) ls (.long (x - x / y * y) :: st) m Rt) := by
  subst hc
  exact T_gn h rfl
theorem R_lshl {x : Int64} {y : Int32} (hc : mtC mu = cc) (h : decode cc pc = .ok (.lshl, 1)) : T S (f + 1) mu pc ls (.int y :: .long x :: st) m Rt = T S (f + 1) mu (pc + 1) ls (.long (x <<< (y.toInt64 &&& 63)) :: st) m Rt := by
  subst hc
  exact T_n h rfl
theorem R_lcmp {x y : Int64} (hc : mtC mu = cc) (h : decode cc pc = .ok (.lcmp, 1)) : T S (f + 1) mu pc ls (.long y :: .long x :: st) m Rt = T S (f + 1) mu (pc + 1) ls (.int (lg_cmp x y) :: st) m Rt := by
  subst hc
  exact T_n h rfl
theorem R_i2l {x : Int32} (hc : mtC mu = cc) (h : decode cc pc = .ok (.i2l, 1)) : T S (f + 1) mu pc ls (.int x :: st) m Rt = T S (f + 1) mu (pc + 1) ls (.long x.toInt64 :: st) m Rt := by
  subst hc
  exact T_n h rfl
theorem R_i2b {x : Int32} (hc : mtC mu = cc) (h : decode cc pc = .ok (.i2b, 1)) : T S (f + 1) mu pc ls (.int x :: st) m Rt = T S (f + 1) mu (pc + 1) ls (.int x.toInt8.toInt32 :: st) m Rt := by
  subst hc
  exact T_n h rfl
theorem R_i2s {x : Int32} (hc : mtC mu = cc) (h : decode cc pc = .ok (.i2s, 1)) : T S (f + 1) mu pc ls (.int x :: st) m Rt = T S (f + 1) mu (pc + 1) ls (.int x.toInt16.toInt32 :: st) m Rt := by
  subst hc
  exact T_n h rfl
theorem R_i2c {x : Int32} (hc : mtC mu = cc) (h : decode cc pc = .ok (.i2c, 1)) : T S (f + 1) mu pc ls (.int x :: st) m Rt = T S (f + 1) mu (pc + 1) ls (.int (x.toUInt32 % 65536).toInt32 :: st) m Rt := by
  subst hc
  exact T_n h rfl
theorem R_dupR {x : Nat} (hc : mtC mu = cc) (h : decode cc pc = .ok (.dup, 1)) : T S (f + 1) mu pc ls (.ref x :: st) m Rt = T S (f + 1) mu (pc + 1) ls (.ref x :: .ref x :: st) m Rt := by
  subst hc
  exact T_n h rfl
theorem R_dupI {x : Int32} (hc : mtC mu = cc) (h : decode cc pc = .ok (.dup, 1)) : T S (f + 1) mu pc ls (.int x :: st) m Rt = T S (f + 1) mu (pc + 1) ls (.int x :: .int x :: st) m Rt := by
  subst hc
  exact T_n h rfl
theorem R_dup2L {x : Int64} (hc : mtC mu = cc) (h : decode cc pc = .ok (.dup2, 1)) : T S (f + 1) mu pc ls (.long x :: st) m Rt = T S (f + 1) mu (pc + 1) ls (.long x :: .long x :: st) m Rt := by
  subst hc
  exact T_n h rfl
theorem R_dup2I {x : Int32} {y : Nat} (hc : mtC mu = cc) (h : decode cc pc = .ok (.dup2, 1)) : T S (f + 1) mu pc ls (.int x :: .ref y :: st) m Rt = T S (f + 1) mu (pc + 1) ls (.int x :: .ref y :: .int x :: .ref y :: st) m Rt := by
  subst hc
  exact T_n h rfl
theorem R_pop {x : Int32} (hc : mtC mu = cc) (h : decode cc pc = .ok (.pop, 1)) : T S (f + 1) mu pc ls (.int x :: st) m Rt = T S (f + 1) mu (pc + 1) ls st m Rt := by
  subst hc
  exact T_n h rfl
theorem R_if_eq {x : Int32} {off : Int} {t : Nat} (hc : mtC mu = cc) (h : decode cc pc = .ok (.ifCond .eq off, 3)) (hj : jmp pc off = some t) : T S (f + 1) mu pc ls (.int x :: st) m Rt = (if x = nI 0 then T S (f + 1) mu t ls st m Rt else T S (f + 1) mu (pc + 3) ls st m Rt) := by
  subst hc
  refine T_b h (ls2 := ls) (st2 := st) (m2 := m) ?_
  simp only [sx, if_true, hj]
  rfl
theorem R_ic_eq {x y : Int32} {off : Int} {t : Nat} (hc : mtC mu = cc) (h : decode cc pc = .ok (.if_icmp .eq off, 3)) (hj : jmp pc off = some t) : T S (f + 1) mu pc ls (.int y :: .int x :: st) m Rt = (if x = y then T S (f + 1) mu t ls st m Rt else T S (f + 1) mu (pc + 3) ls st m Rt) := by
  subst hc
  refine T_b h (ls2 := ls) (st2 := st) (m2 := m) ?_
  simp only [sx, if_true, hj]
  rfl
theorem R_if_ne {x : Int32} {off : Int} {t : Nat} (hc : mtC mu = cc) (h : decode cc pc = .ok (.ifCond .ne off, 3)) (hj : jmp pc off = some t) : T S (f + 1) mu pc ls (.int x :: st) m Rt = (if x = nI 0 then T S (f + 1) mu (pc + 3) ls st m Rt else T S (f + 1) mu t ls st m Rt) := by
  subst hc
  refine T_bn h (ls2 := ls) (st2 := st) (m2 := m) ?_
  simp only [sx, if_true, hj]
  rfl
theorem R_ic_ne {x y : Int32} {off : Int} {t : Nat} (hc : mtC mu = cc) (h : decode cc pc = .ok (.if_icmp .ne off, 3)) (hj : jmp pc off = some t) : T S (f + 1) mu pc ls (.int y :: .int x :: st) m Rt = (if x = y then T S (f + 1) mu (pc + 3) ls st m Rt else T S (f + 1) mu t ls st m Rt) := by
  subst hc
  refine T_bn h (ls2 := ls) (st2 := st) (m2 := m) ?_
  simp only [sx, if_true, hj]
  rfl
theorem R_if_lt {x : Int32} {off : Int} {t : Nat} (hc : mtC mu = cc) (h : decode cc pc = .ok (.ifCond .lt off, 3)) (hj : jmp pc off = some t) : T S (f + 1) mu pc ls (.int x :: st) m Rt = (if x < nI 0 then T S (f + 1) mu t ls st m Rt else T S (f + 1) mu (pc + 3) ls st m Rt) := by
  subst hc
  refine T_b h (ls2 := ls) (st2 := st) (m2 := m) ?_
  simp only [sx, if_true, hj]
  rfl
theorem R_ic_lt {x y : Int32} {off : Int} {t : Nat} (hc : mtC mu = cc) (h : decode cc pc = .ok (.if_icmp .lt off, 3)) (hj : jmp pc off = some t) : T S (f + 1) mu pc ls (.int y :: .int x :: st) m Rt = (if x < y then T S (f + 1) mu t ls st m Rt else T S (f + 1) mu (pc + 3) ls st m Rt) := by
  subst hc
  refine T_b h (ls2 := ls) (st2 := st) (m2 := m) ?_
  simp only [sx, if_true, hj]
  rfl
theorem R_if_ge {x : Int32} {off : Int} {t : Nat} (hc : mtC mu = cc) (h : decode cc pc = .ok (.ifCond .ge off, 3)) (hj : jmp pc off = some t) : T S (f + 1) mu pc ls (.int x :: st) m Rt = (if nI 0 ≤ x then T S (f + 1) mu t ls st m Rt else T S (f + 1) mu (pc + 3) ls st m Rt) := by
  subst hc
  refine T_b h (ls2 := ls) (st2 := st) (m2 := m) ?_
  simp only [sx, if_true, hj]
  rfl
theorem R_ic_ge {x y : Int32} {off : Int} {t : Nat} (hc : mtC mu = cc) (h : decode cc pc = .ok (.if_icmp .ge off, 3)) (hj : jmp pc off = some t) : T S (f + 1) mu pc ls (.int y :: .int x :: st) m Rt = (if y ≤ x then T S (f + 1) mu t ls st m Rt else T S (f + 1) mu (pc + 3) ls st m Rt) := by
  subst hc
  refine T_b h (ls2 := ls) (st2 := st) (m2 := m) ?_
  simp only [sx, if_true, hj]
  rfl
theorem R_if_gt {x : Int32} {off : Int} {t : Nat} (hc : mtC mu = cc) (h : decode cc pc = .ok (.ifCond .gt off, 3)) (hj : jmp pc off = some t) : T S (f + 1) mu pc ls (.int x :: st) m Rt = (if nI 0 < x then T S (f + 1) mu t ls st m Rt else T S (f + 1) mu (pc + 3) ls st m Rt) := by
  subst hc
  refine T_b h (ls2 := ls) (st2 := st) (m2 := m) ?_
  simp only [sx, if_true, hj]
  rfl
theorem R_ic_gt {x y : Int32} {off : Int} {t : Nat} (hc : mtC mu = cc) (h : decode cc pc = .ok (.if_icmp .gt off, 3)) (hj : jmp pc off = some t) : T S (f + 1) mu pc ls (.int y :: .int x :: st) m Rt = (if y < x then T S (f + 1) mu t ls st m Rt else T S (f + 1) mu (pc + 3) ls st m Rt) := by
  subst hc
  refine T_b h (ls2 := ls) (st2 := st) (m2 := m) ?_
  simp only [sx, if_true, hj]
  rfl
theorem R_if_le {x : Int32} {off : Int} {t : Nat} (hc : mtC mu = cc) (h : decode cc pc = .ok (.ifCond .le off, 3)) (hj : jmp pc off = some t) : T S (f + 1) mu pc ls (.int x :: st) m Rt = (if x ≤ nI 0 then T S (f + 1) mu t ls st m Rt else T S (f + 1) mu (pc + 3) ls st m Rt) := by
  subst hc
  refine T_b h (ls2 := ls) (st2 := st) (m2 := m) ?_
  simp only [sx, if_true, hj]
  rfl
theorem R_ic_le {x y : Int32} {off : Int} {t : Nat} (hc : mtC mu = cc) (h : decode cc pc = .ok (.if_icmp .le off, 3)) (hj : jmp pc off = some t) : T S (f + 1) mu pc ls (.int y :: .int x :: st) m Rt = (if x ≤ y then T S (f + 1) mu t ls st m Rt else T S (f + 1) mu (pc + 3) ls st m Rt) := by
  subst hc
  refine T_b h (ls2 := ls) (st2 := st) (m2 := m) ?_
  simp only [sx, if_true, hj]
  rfl
theorem R_goto {off : Int} {t : Nat} (hc : mtC mu = cc) (h : decode cc pc = .ok (.goto off, 3)) (hj : jmp pc off = some t) : T S (f + 1) mu pc ls st m Rt = T S (f + 1) mu t ls st m Rt := by
  subst hc
  refine T_n h ?_
  simp only [sx, if_true, hj]
  rfl
theorem R_put {idx ci c0 j n pl a : Nat} {x : Int32} (hc : mtC mu = cc) (hk : mtK mu = c0) (h : decode cc pc = .ok (.putfield idx, 3)) (hf : fld c0 idx = some (ci, j, pl)) (hl : lay a = (0, ci, n)) (hj : j < n) (hr : rf a j = none) (hok : putOk ci j x = true) : T S (f + 1) mu pc ls (.int x :: .ref a :: st) m Rt = T S (f + 1) mu (pc + 3) ls st (up m a j x) Rt := by
  subst hc; subst hk
  refine T_n h ?_
  simp only [sx, if_true, hf, hl]
  rw [if_pos ⟨trivial, hj, hr, hok⟩]
  rfl
theorem putOk_int {ci j : Nat} {x : Int32} (h1 : fty ci j = .int) (h2 : (fTT ci j).2.2.2 = false) : putOk ci j x = true := by
  unfold putOk
  rw [h1, h2]
  simp [narrow, fits]
theorem R_getI {idx ci c0 j n pl a : Nat} (hc : mtC mu = cc) (hk : mtK mu = c0) (h : decode cc pc = .ok (.getfield idx, 3)) (hf : fld c0 idx = some (ci, j, pl)) (hl : lay a = (0, ci, n)) (hj : j < n) (hr : rf a j = none) : T S (f + 1) mu pc ls (.ref a :: st) m Rt = T S (f + 1) mu (pc + 3) ls (.int (m a j) :: st) m Rt := by
  subst hc; subst hk
  refine T_n h ?_
  simp only [sx, if_true, hf, hl, fv, hr]
  rw [if_pos ⟨trivial, hj⟩]
  rfl
theorem R_getR {idx ci c0 j n pl a r : Nat} (hc : mtC mu = cc) (hk : mtK mu = c0) (h : decode cc pc = .ok (.getfield idx, 3)) (hf : fld c0 idx = some (ci, j, pl)) (hl : lay a = (0, ci, n)) (hj : j < n) (hr : rf a j = some r) : T S (f + 1) mu pc ls (.ref a :: st) m Rt = T S (f + 1) mu (pc + 3) ls (.ref r :: st) m Rt := by
  subst hc; subst hk
  refine T_n h ?_
  simp only [sx, if_true, hf, hl, fv, hr]
  rw [if_pos ⟨trivial, hj⟩]
  rfl
theorem R_getV {idx c0 pl a k n : Nat} (hc : mtC mu = cc) (hk : mtK mu = c0) (h : decode cc pc = .ok (.getfield idx, 3)) (hf : fld c0 idx = some (7, 0, pl)) (hl : lay a = (6, k, n)) : T S (f + 1) mu pc ls (.ref a :: st) m Rt = T S (f + 1) mu (pc + 3) ls (.ref (a + 1) :: st) m Rt := by
  subst hc; subst hk
  refine T_n h ?_
  simp only [sx, if_true, hf, hl]
  rfl
theorem R_getC {idx c0 pl a k n : Nat} (hc : mtC mu = cc) (hk : mtK mu = c0) (h : decode cc pc = .ok (.getfield idx, 3)) (hf : fld c0 idx = some (7, 1, pl)) (hl : lay a = (6, k, n)) : T S (f + 1) mu pc ls (.ref a :: st) m Rt = T S (f + 1) mu (pc + 3) ls (.int 0 :: st) m Rt := by
  subst hc; subst hk
  refine T_n h ?_
  simp only [sx, if_true, hf, hl]
  rfl
theorem R_gs1 (hc : mtC mu = cc) (hk : mtK mu = 7) (h : decode cc pc = .ok (.getstatic 38, 3)) : T S (f + 1) mu pc ls st m Rt = T S (f + 1) mu (pc + 3) ls (.int 1 :: st) m Rt := by
  subst hc
  refine T_n h ?_
  simp only [sx, if_true, hk]
  rfl
theorem R_gs2 (hc : mtC mu = cc) (hk : mtK mu = 7) (h : decode cc pc = .ok (.getstatic 1053, 3)) : T S (f + 1) mu pc ls st m Rt = T S (f + 1) mu (pc + 3) ls (.null :: st) m Rt := by
  subst hc
  refine T_n h ?_
  simp only [sx, if_true, hk]
  rfl
theorem R_ild {a n : Nat} {i : Int32} (hc : mtC mu = cc) (h : decode cc pc = .ok (.iaload, 1)) (hl : lay a = (1, 0, n)) : T S (f + 1) mu pc ls (.int i :: .ref a :: st) m Rt = (inB i n = true ∧ T S (f + 1) mu (pc + 1) ls (.int (m a i.toNatClampNeg) :: st) m Rt) := by
  subst hc
  refine T_g h ?_
  simp only [sx, if_true, hl]
theorem R_xld {a : Nat} {i : Int32} (hc : mtC mu = cc) (h : decode cc pc = .ok (.iaload, 1)) (hl : lay a = (8, 0, 0)) : T S (f + 1) mu pc ls (.int i :: .ref a :: st) m Rt = (inB i S.1 = true ∧ T S (f + 1) mu (pc + 1) ls (.int (S.2 i.toNatClampNeg) :: st) m Rt) := by
  subst hc
  refine T_g h ?_
  simp only [sx, if_true, hl]
theorem R_cld {a n : Nat} {i : Int32} (hc : mtC mu = cc) (h : decode cc pc = .ok (.caload, 1)) (hl : lay a = (1, 1, n)) : T S (f + 1) mu pc ls (.int i :: .ref a :: st) m Rt = (inB i n = true ∧ T S (f + 1) mu (pc + 1) ls (.int (m a i.toNatClampNeg) :: st) m Rt) := by
  subst hc
  refine T_g h ?_
  simp only [sx, if_true, hl]
theorem R_zld {a n : Nat} {i : Int32} (hc : mtC mu = cc) (h : decode cc pc = .ok (.baload, 1)) (hl : lay a = (1, 2, n)) : T S (f + 1) mu pc ls (.int i :: .ref a :: st) m Rt = (inB i n = true ∧ T S (f + 1) mu (pc + 1) ls (.int (m a i.toNatClampNeg) :: st) m Rt) := by
  subst hc
  refine T_g h ?_
  simp only [sx, if_true, hl]
theorem R_bld {a k n : Nat} {i : Int32} (hc : mtC mu = cc) (h : decode cc pc = .ok (.baload, 1)) (hl : lay a = (7, k, n)) : T S (f + 1) mu pc ls (.int i :: .ref a :: st) m Rt = (inB i n = true ∧ T S (f + 1) mu (pc + 1) ls (.int ((strL.getD k []).getD i.toNatClampNeg 0) :: st) m Rt) := by
  subst hc
  refine T_g h ?_
  simp only [sx, if_true, hl]
theorem R_ald {a t n r : Nat} {i : Int32} (hc : mtC mu = cc) (h : decode cc pc = .ok (.aaload, 1)) (hl : lay a = (2, t, n)) (hi : inB i n = true) (hr : rf a i.toNatClampNeg = some r) : T S (f + 1) mu pc ls (.int i :: .ref a :: st) m Rt = T S (f + 1) mu (pc + 1) ls (.ref r :: st) m Rt := by
  subst hc
  refine T_n h ?_
  simp only [sx, if_true, hl, hi, hr]
  rfl
theorem R_ist {a n : Nat} {i x : Int32} (hc : mtC mu = cc) (h : decode cc pc = .ok (.iastore, 1)) (hl : lay a = (1, 0, n)) : T S (f + 1) mu pc ls (.int x :: .int i :: .ref a :: st) m Rt = (inB i n = true ∧ T S (f + 1) mu (pc + 1) ls st (up m a i.toNatClampNeg x) Rt) := by
  subst hc
  refine T_g h ?_
  simp only [sx, if_true, hl]
theorem R_cst {a n : Nat} {i x : Int32} (hc : mtC mu = cc) (h : decode cc pc = .ok (.castore, 1)) (hl : lay a = (1, 1, n)) : T S (f + 1) mu pc ls (.int x :: .int i :: .ref a :: st) m Rt = (inB i n = true ∧ T S (f + 1) mu (pc + 1) ls st (up m a i.toNatClampNeg (vp_nar .char x)) Rt) := by
  subst hc
  refine T_g h ?_
  simp only [sx, if_true, hl]
theorem R_zst {a n : Nat} {i x : Int32} (hc : mtC mu = cc) (h : decode cc pc = .ok (.bastore, 1)) (hl : lay a = (1, 2, n)) : T S (f + 1) mu pc ls (.int x :: .int i :: .ref a :: st) m Rt = (inB i n = true ∧ T S (f + 1) mu (pc + 1) ls st (up m a i.toNatClampNeg (vp_nar .boolean x)) Rt) := by
  subst hc
  refine T_g h ?_
  simp only [sx, if_true, hl]
theorem R_al1 {a t n : Nat} (hc : mtC mu = cc) (h : decode cc pc = .ok (.arraylength, 1)) (hl : lay a = (1, t, n)) : T S (f + 1) mu pc ls (.ref a :: st) m Rt = T S (f + 1) mu (pc + 1) ls (.int (nI n) :: st) m Rt := by
  subst hc
  refine T_n h ?_
  simp only [sx, if_true, hl]
  rfl
theorem R_al2 {a t n : Nat} (hc : mtC mu = cc) (h : decode cc pc = .ok (.arraylength, 1)) (hl : lay a = (2, t, n)) : T S (f + 1) mu pc ls (.ref a :: st) m Rt = T S (f + 1) mu (pc + 1) ls (.int (nI n) :: st) m Rt := by
  subst hc
  refine T_n h ?_
  simp only [sx, if_true, hl]
  rfl
theorem R_al7 {a t n : Nat} (hc : mtC mu = cc) (h : decode cc pc = .ok (.arraylength, 1)) (hl : lay a = (7, t, n)) : T S (f + 1) mu pc ls (.ref a :: st) m Rt = T S (f + 1) mu (pc + 1) ls (.int (nI n) :: st) m Rt := by
  subst hc
  refine T_n h ?_
  simp only [sx, if_true, hl]
  rfl
theorem R_al8 {a t n : Nat} (hc : mtC mu = cc) (h : decode cc pc = .ok (.arraylength, 1)) (hl : lay a = (8, t, n)) : T S (f + 1) mu pc ls (.ref a :: st) m Rt = T S (f + 1) mu (pc + 1) ls (.int (nI S.1) :: st) m Rt := by
  subst hc
  refine T_n h ?_
  simp only [sx, if_true, hl]
  rfl
theorem R_cp {idx c0 q pl a b n0 n1 : Nat} {sp dp n : Int32} (hc : mtC mu = cc) (hk : mtK mu = c0) (h : decode cc pc = .ok (.invokestatic idx, 3)) (hcal : cal c0 idx = some (3, q, pl)) (h0 : lay a = (1, 0, n0)) (h1 : lay b = (1, 0, n1)) (h8 : cat8 st = true) : T S (f + 1) mu pc ls (.int n :: .int dp :: .ref b :: .int sp :: .ref a :: st) m Rt = ((¬ sp < 0 ∧ ¬ dp < 0 ∧ ¬ n < 0 ∧ sp.toNatClampNeg + n.toNatClampNeg ≤ n0 ∧ dp.toNatClampNeg + n.toNatClampNeg ≤ n1) ∧ T S (f + 1) mu (pc + 3) ls st (upA m b (va_cpy (m a) (m b) sp.toNatClampNeg dp.toNatClampNeg n.toNatClampNeg)) Rt) := by
  subst hc; subst hk
  have e := T_gp (S := S) (f := f) (Rt := Rt) (ls := ls) (m := m) (st := .int n :: .int dp :: .ref b :: .int sp :: .ref a :: st) (g := ¬ sp < 0 ∧ ¬ dp < 0 ∧ ¬ n < 0 ∧ sp.toNatClampNeg + n.toNatClampNeg ≤ n0 ∧ dp.toNatClampNeg + n.toNatClampNeg ≤ n1 ∧ cat8 st = true) (pc2 := pc + 3) (ls2 := ls) (st2 := st) (m2 := upA m b (va_cpy (m a) (m b) sp.toNatClampNeg dp.toNatClampNeg n.toNatClampNeg)) h (by simp only [sx, if_true, hcal, h0, h1])
  rw [e]
  simp [h8]
theorem R_min {idx c0 q pl : Nat} {x y : Int32} (hc : mtC mu = cc) (hk : mtK mu = c0) (h : decode cc pc = .ok (.invokestatic idx, 3)) (hcal : cal c0 idx = some (4, q, pl)) (h8 : cat8 st = true) : T S (f + 1) mu pc ls (.int y :: .int x :: st) m Rt = T S (f + 1) mu (pc + 3) ls (.int (if y < x then y else x) :: st) m Rt := by
  subst hc; subst hk
  refine T_n h ?_
  simp only [sx, if_true, hcal, h8]
  rfl
theorem R_max {idx c0 q pl : Nat} {x y : Int32} (hc : mtC mu = cc) (hk : mtK mu = c0) (h : decode cc pc = .ok (.invokestatic idx, 3)) (hcal : cal c0 idx = some (5, q, pl)) (h8 : cat8 st = true) : T S (f + 1) mu pc ls (.int y :: .int x :: st) m Rt = T S (f + 1) mu (pc + 3) ls (.int (if x < y then y else x) :: st) m Rt := by
  subst hc; subst hk
  refine T_n h ?_
  simp only [sx, if_true, hcal, h8]
  rfl
/-- a call of a static method: n arguments, M places of locals -/
theorem R_cs {idx c0 k q pl n M : Nat} {av rest : List Value} {loc : ALoc} (hc : mtC mu = cc) (hk : mtK mu = c0) (h : decode cc pc = .ok (.invokestatic idx, 3)) (hcal : cal c0 idx = some (k, q, pl)) (hk0 : k = 0 ∨ k = 2) (hN : mtN q = n) (hM : mtM q = M) (hst : st.take n = av) (hdr : st.drop n = rest) (hle : Nat.ble n st.length = true) (h8 : cat8 rest = true) (hao : Nat.ble (entL av.reverse).length M = true) (he : entL av.reverse ++ List.replicate (M - (entL av.reverse).length) none = loc) : T S (f + 1) mu pc ls st m Rt = T S f q 0 loc [] m (fun r1 m1 => T S (f + 1) mu (pc + 3) ls (pu r1 rest) m1 Rt) := by
  subst hc; subst hk; subst hN; subst hM; subst hst; subst hdr
  have hao2 : argOk q (st.take (mtN q)).reverse = true := hao
  have hl2 : mtN q ≤ st.length := Nat.le_of_ble_eq_true hle
  have e := T_c (S := S) (f := f) (Rt := Rt) (ls := ls) (m := m) (st := st) (q := q) (args := (st.take (mtN q)).reverse) (rest := st.drop (mtN q)) h (by rcases hk0 with rfl | rfl <;> simp only [sx, if_true, hcal] <;> rw [if_pos ⟨hl2, h8, hao2⟩])
  rw [e, show ent q (st.take (mtN q)).reverse = loc from he]
/-- a call of an instance method -/
theorem R_cv {idx c0 q pl n M a : Nat} {av rest : List Value} {loc : ALoc} (hc : mtC mu = cc) (hk : mtK mu = c0) (h : decode cc pc = .ok (.invokevirtual idx, 3)) (hcal : cal c0 idx = some (1, q, pl)) (hN : mtN q = n) (hM : mtM q = M) (hst : st.take n = av) (hdr : st.drop n = .ref a :: rest) (hle : Nat.ble n st.length = true) (hrc : rcvOk a (mtK q) = true) (h8 : cat8 rest = true) (hao : Nat.ble (entL (.ref a :: av.reverse)).length M = true) (he : entL (.ref a :: av.reverse) ++ List.replicate (M - (entL (.ref a :: av.reverse)).length) none = loc) : T S (f + 1) mu pc ls st m Rt = T S f q 0 loc [] m (fun r1 m1 => T S (f + 1) mu (pc + 3) ls (pu r1 rest) m1 Rt) := by
  subst hc; subst hk; subst hN; subst hM; subst hst
  have hao2 : argOk q (.ref a :: (st.take (mtN q)).reverse) = true := hao
  have hl2 : mtN q ≤ st.length := Nat.le_of_ble_eq_true hle
  have e := T_c (S := S) (f := f) (Rt := Rt) (ls := ls) (m := m) (st := st) (q := q) (args := .ref a :: (st.take (mtN q)).reverse) (rest := rest) h (by simp only [sx, if_true, hcal, hdr]; rw [if_pos ⟨hl2, hrc, h8, hao2⟩])
  rw [e, show ent q (.ref a :: (st.take (mtN q)).reverse) = loc from he]
theorem R_ri {x : Int32} (hc : mtC mu = cc) (h : decode cc pc = .ok (.ireturn, 1)) (hr : mtR mu = some .int) : T S (f + 1) mu pc ls [.int x] m Rt = Rt (some (.int x)) m := by
  subst hc
  refine T_r h ?_
  simp only [sx, if_true, hr, narrow]
theorem R_rt {x : Int32} {ty : FieldType} (hc : mtC mu = cc) (h : decode cc pc = .ok (.ireturn, 1)) (hr : mtR mu = some ty) : T S (f + 1) mu pc ls [.int x] m Rt = (narrow ty (.int x) = .int x ∧ Rt (some (.int x)) m) := by
  subst hc
  refine T_rp h ?_
  simp only [sx, if_true, hr]
theorem R_rl {x : Int64} (hc : mtC mu = cc) (h : decode cc pc = .ok (.lreturn, 1)) (hr : mtR mu = some .long) : T S (f + 1) mu pc ls [.long x] m Rt = Rt (some (.long x)) m := by
  subst hc
  refine T_r h ?_
  simp only [sx, if_true, hr]
theorem R_ra {x : Nat} {nm : String} (hc : mtC mu = cc) (h : decode cc pc = .ok (.areturn, 1)) (hr : mtR mu = some (.object nm)) : T S (f + 1) mu pc ls [.ref x] m Rt = Rt (some (.ref x)) m := by
  subst hc
  refine T_r h ?_
  simp only [sx, if_true, hr]
theorem R_rv (hc : mtC mu = cc) (h : decode cc pc = .ok (.return_, 1)) (hr : mtR mu = none) : T S (f + 1) mu pc ls [] m Rt = Rt none m := by
  subst hc
  refine T_r h ?_
  simp only [sx, if_true, hr]
theorem R_tsI {d lo hi off : Int} {offs : Array Int} {len t : Nat} {x : Int32} (hc : mtC mu = cc) (h : decode cc pc = .ok (.tableswitch d lo hi offs, len)) (h1 : ¬ (x.toInt < lo ∨ hi < x.toInt)) (h2 : (x.toInt - lo).toNat < offs.size) (ho : offs[(x.toInt - lo).toNat]? = some off) (hj : jmp pc off = some t) : T S (f + 1) mu pc ls (.int x :: st) m Rt = T S (f + 1) mu t ls st m Rt := by
  subst hc
  refine T_n h ?_
  simp only [sx, if_neg h1, ho, Option.getD_some, hj]
  rw [if_pos (Or.inr (Or.inr h2))]
  rfl
theorem R_tsD {d lo hi : Int} {offs : Array Int} {len t : Nat} {x : Int32} (hc : mtC mu = cc) (h : decode cc pc = .ok (.tableswitch d lo hi offs, len)) (hj : jmp pc d = some t) (h1 : x.toInt < lo ∨ hi < x.toInt) : T S (f + 1) mu pc ls (.int x :: st) m Rt = T S (f + 1) mu t ls st m Rt := by
  subst hc
  refine T_n h ?_
  simp only [sx, if_pos h1, hj]
  rw [if_pos (by rcases h1 with q | q; exact Or.inl q; exact Or.inr (Or.inl q))]
  rfl
theorem R_lk {d off : Int} {ps : Array (Int × Int)} {len t : Nat} {x : Int32} (hc : mtC mu = cc) (h : decode cc pc = .ok (.lookupswitch d ps, len)) (hp : (ps.toList.zip (ps.toList.drop 1)).all (fun (a, next) => a.1 < next.1) = true) (ho : Op.lookupswitch.offset ps.toList d x.toInt = off) (hj : jmp pc off = some t) : T S (f + 1) mu pc ls (.int x :: st) m Rt = T S (f + 1) mu t ls st m Rt := by
  subst hc
  refine T_n h ?_
  simp only [sx, ho, hj]
  rw [if_pos hp]
  rfl
theorem lk_nil (d x : Int) : Op.lookupswitch.offset [] d x = d := rfl
end RU
/-- truth as a number -/
def b01 (p : Prop) [Decidable p] : Int32 := if p then nI 1 else nI 0
theorem mc0 : mtC 0 = cX0_run := rfl
theorem mk0 : mtK 0 = 0 := rfl
theorem mm0 : mtM 0 = 3 := rfl
theorem mn0 : mtN 0 = 0 := rfl
theorem mr0 : mtR 0 = none := rfl
theorem mc1 : mtC 1 = cX0_begin := rfl
theorem mk1 : mtK 1 = 0 := rfl
theorem mm1 : mtM 1 = 2 := rfl
theorem mn1 : mtN 1 = 0 := rfl
theorem mr1 : mtR 1 = none := rfl
theorem mc2 : mtC 2 = cX0_bedIn := rfl
theorem mk2 : mtK 2 = 0 := rfl
theorem mm2 : mtM 2 = 2 := rfl
theorem mn2 : mtN 2 = 1 := rfl
theorem mr2 : mtR 2 = (some FieldType.int) := rfl
theorem mc3 : mtC 3 = cX0_depart := rfl
theorem mk3 : mtK 3 = 0 := rfl
theorem mm3 : mtM 3 = 5 := rfl
theorem mn3 : mtN 3 = 2 := rfl
theorem mr3 : mtR 3 = none := rfl
theorem mc4 : mtC 4 = cX0_deepestInDebt := rfl
theorem mk4 : mtK 4 = 0 := rfl
theorem mm4 : mtM 4 = 6 := rfl
theorem mn4 : mtN 4 = 1 := rfl
theorem mr4 : mtR 4 = (some FieldType.int) := rfl
theorem mc5 : mtC 5 = cX0_isHouse := rfl
theorem mk5 : mtK 5 = 0 := rfl
theorem mm5 : mtM 5 = 1 := rfl
theorem mn5 : mtN 5 = 1 := rfl
theorem mr5 : mtR 5 = (some FieldType.boolean) := rfl
theorem mc6 : mtC 6 = cX0_board := rfl
theorem mk6 : mtK 6 = 0 := rfl
theorem mm6 : mtM 6 = 4 := rfl
theorem mn6 : mtN 6 = 3 := rfl
theorem mr6 : mtR 6 = none := rfl
theorem mc7 : mtC 7 = cX0_pay := rfl
theorem mk7 : mtK 7 = 0 := rfl
theorem mm7 : mtM 7 = 5 := rfl
theorem mn7 : mtN 7 = 1 := rfl
theorem mr7 : mtR 7 = none := rfl
theorem mc8 : mtC 8 = cX0_owedTo := rfl
theorem mk8 : mtK 8 = 0 := rfl
theorem mm8 : mtM 8 = 5 := rfl
theorem mn8 : mtN 8 = 2 := rfl
theorem mr8 : mtR 8 = (some FieldType.int) := rfl
theorem mc9 : mtC 9 = cX0_howManySound := rfl
theorem mk9 : mtK 9 = 0 := rfl
theorem mm9 : mtM 9 = 4 := rfl
theorem mn9 : mtN 9 = 1 := rfl
theorem mr9 : mtR 9 = (some FieldType.int) := rfl
theorem mc10 : mtC 10 = cX0_howManySailed := rfl
theorem mk10 : mtK 10 = 0 := rfl
theorem mm10 : mtM 10 = 3 := rfl
theorem mn10 : mtN 10 = 0 := rfl
theorem mr10 : mtR 10 = (some FieldType.int) := rfl
theorem mc11 : mtC 11 = cX1_renew := rfl
theorem mk11 : mtK 11 = 1 := rfl
theorem mm11 : mtM 11 = 4 := rfl
theorem mn11 : mtN 11 = 2 := rfl
theorem mr11 : mtR 11 = none := rfl
theorem mc12 : mtC 12 = cX1_set := rfl
theorem mk12 : mtK 12 = 1 := rfl
theorem mm12 : mtM 12 = 3 := rfl
theorem mn12 : mtN 12 = 2 := rfl
theorem mr12 : mtR 12 = none := rfl
theorem mc13 : mtC 13 = cX1_holds := rfl
theorem mk13 : mtK 13 = 1 := rfl
theorem mm13 : mtM 13 = 3 := rfl
theorem mn13 : mtN 13 = 2 := rfl
theorem mr13 : mtR 13 = (some FieldType.boolean) := rfl
theorem mc14 : mtC 14 = cX2_more := rfl
theorem mk14 : mtK 14 = 2 := rfl
theorem mm14 : mtM 14 = 4 := rfl
theorem mn14 : mtN 14 = 3 := rfl
theorem mr14 : mtR 14 = (some FieldType.int) := rfl
theorem mc15 : mtC 15 = cX2_comeOutSo := rfl
theorem mk15 : mtK 15 = 2 := rfl
theorem mm15 : mtM 15 = 4 := rfl
theorem mn15 : mtN 15 = 1 := rfl
theorem mr15 : mtR 15 = (some FieldType.boolean) := rfl
theorem mc16 : mtC 16 = cX3_items := rfl
theorem mk16 : mtK 16 = 3 := rfl
theorem mm16 : mtM 16 = 1 := rfl
theorem mn16 : mtN 16 = 0 := rfl
theorem mr16 : mtR 16 = (some FieldType.int) := rfl
theorem mc17 : mtC 17 = cX3_firstFault := rfl
theorem mk17 : mtK 17 = 3 := rfl
theorem mm17 : mtM 17 = 4 := rfl
theorem mn17 : mtN 17 = 0 := rfl
theorem mr17 : mtR 17 = (some FieldType.int) := rfl
theorem mc18 : mtC 18 = cX3_step := rfl
theorem mk18 : mtK 18 = 3 := rfl
theorem mm18 : mtM 18 = 1 := rfl
theorem mn18 : mtN 18 = 0 := rfl
theorem mr18 : mtR 18 = (some FieldType.int) := rfl
theorem mc19 : mtC 19 = cX3_fits := rfl
theorem mk19 : mtK 19 = 3 := rfl
theorem mm19 : mtM 19 = 4 := rfl
theorem mn19 : mtN 19 = 2 := rfl
theorem mr19 : mtR 19 = (some FieldType.boolean) := rfl
theorem mc20 : mtC 20 = cX3_kindOf := rfl
theorem mk20 : mtK 20 = 3 := rfl
theorem mm20 : mtM 20 = 1 := rfl
theorem mn20 : mtN 20 = 1 := rfl
theorem mr20 : mtR 20 = (some FieldType.int) := rfl
theorem mc21 : mtC 21 = cX3_byteOf := rfl
theorem mk21 : mtK 21 = 3 := rfl
theorem mm21 : mtM 21 = 4 := rfl
theorem mn21 : mtN 21 = 2 := rfl
theorem mr21 : mtR 21 = (some FieldType.char) := rfl
theorem mc22 : mtC 22 = cX3_figure := rfl
theorem mk22 : mtK 22 = 3 := rfl
theorem mm22 : mtM 22 = 3 := rfl
theorem mn22 : mtN 22 = 2 := rfl
theorem mr22 : mtR 22 = (some FieldType.int) := rfl
theorem mc23 : mtC 23 = cX4_tellMen := rfl
theorem mk23 : mtK 23 = 4 := rfl
theorem mm23 : mtM 23 = 3 := rfl
theorem mn23 : mtN 23 = 1 := rfl
theorem mr23 : mtR 23 = none := rfl
theorem mc24 : mtC 24 = cX4_tellInns := rfl
theorem mk24 : mtK 24 = 4 := rfl
theorem mm24 : mtM 24 = 3 := rfl
theorem mn24 : mtN 24 = 1 := rfl
theorem mr24 : mtR 24 = none := rfl
theorem mc25 : mtC 25 = cX4_tellFleet := rfl
theorem mk25 : mtK 25 = 4 := rfl
theorem mm25 : mtM 25 = 3 := rfl
theorem mn25 : mtN 25 = 1 := rfl
theorem mr25 : mtR 25 = none := rfl
theorem mc26 : mtC 26 = cX4_comes := rfl
theorem mk26 : mtK 26 = 4 := rfl
theorem mm26 : mtM 26 = 3 := rfl
theorem mn26 : mtN 26 = 2 := rfl
theorem mr26 : mtR 26 = (some FieldType.boolean) := rfl
theorem mc27 : mtC 27 = cX4_isSound := rfl
theorem mk27 : mtK 27 = 4 := rfl
theorem mm27 : mtM 27 = 2 := rfl
theorem mn27 : mtN 27 = 1 := rfl
theorem mr27 : mtR 27 = (some FieldType.boolean) := rfl
theorem mc28 : mtC 28 = cX4_costOf := rfl
theorem mk28 : mtK 28 = 4 := rfl
theorem mm28 : mtM 28 = 3 := rfl
theorem mn28 : mtN 28 = 2 := rfl
theorem mr28 : mtR 28 = (some FieldType.int) := rfl
theorem mc29 : mtC 29 = cX4_become := rfl
theorem mk29 : mtK 29 = 4 := rfl
theorem mm29 : mtM 29 = 2 := rfl
theorem mn29 : mtN 29 = 1 := rfl
theorem mr29 : mtR 29 = none := rfl
theorem mc30 : mtC 30 = cX5_type := rfl
theorem mk30 : mtK 30 = 5 := rfl
theorem mm30 : mtM 30 = 4 := rfl
theorem mn30 : mtN 30 = 2 := rfl
theorem mr30 : mtR 30 = (some FieldType.int) := rfl
theorem mc31 : mtC 31 = cX5_isText := rfl
theorem mk31 : mtK 31 = 5 := rfl
theorem mm31 : mtM 31 = 1 := rfl
theorem mn31 : mtN 31 = 1 := rfl
theorem mr31 : mtR 31 = (some FieldType.boolean) := rfl
theorem mc32 : mtC 32 = cX5_isOneOf := rfl
theorem mk32 : mtK 32 = 5 := rfl
theorem mm32 : mtM 32 = 2 := rfl
theorem mn32 : mtN 32 = 2 := rfl
theorem mr32 : mtR 32 = (some FieldType.boolean) := rfl
theorem mc33 : mtC 33 = cX5_resize := rfl
theorem mk33 : mtK 33 = 5 := rfl
theorem mm33 : mtM 33 = 3 := rfl
theorem mn33 : mtN 33 = 2 := rfl
theorem mr33 : mtR 33 = (some FieldType.int) := rfl
theorem mc34 : mtC 34 = cX5_forgetRuns := rfl
theorem mk34 : mtK 34 = 5 := rfl
theorem mm34 : mtM 34 = 1 := rfl
theorem mn34 : mtN 34 = 0 := rfl
theorem mr34 : mtR 34 = none := rfl
theorem mc35 : mtC 35 = cX5_wipe := rfl
theorem mk35 : mtK 35 = 5 := rfl
theorem mm35 : mtM 35 = 3 := rfl
theorem mn35 : mtN 35 = 1 := rfl
theorem mr35 : mtR 35 = (some FieldType.int) := rfl
theorem mc36 : mtC 36 = cX5_undo := rfl
theorem mk36 : mtK 36 = 5 := rfl
theorem mm36 : mtM 36 = 2 := rfl
theorem mn36 : mtN 36 = 1 := rfl
theorem mr36 : mtR 36 = (some FieldType.int) := rfl
theorem mc37 : mtC 37 = cX5_fault := rfl
theorem mk37 : mtK 37 = 5 := rfl
theorem mm37 : mtM 37 = 2 := rfl
theorem mn37 : mtN 37 = 1 := rfl
theorem mr37 : mtR 37 = (some FieldType.int) := rfl
theorem mc38 : mtC 38 = cX5_sailor := rfl
theorem mk38 : mtK 38 = 5 := rfl
theorem mm38 : mtM 38 = 3 := rfl
theorem mn38 : mtN 38 = 2 := rfl
theorem mr38 : mtR 38 = (some FieldType.int) := rfl
theorem mc39 : mtC 39 = cX5_isMan := rfl
theorem mk39 : mtK 39 = 5 := rfl
theorem mm39 : mtM 39 = 2 := rfl
theorem mn39 : mtN 39 = 1 := rfl
theorem mr39 : mtR 39 = (some FieldType.boolean) := rfl
theorem mc40 : mtC 40 = cX5_house := rfl
theorem mk40 : mtK 40 = 5 := rfl
theorem mm40 : mtM 40 = 3 := rfl
theorem mn40 : mtN 40 = 2 := rfl
theorem mr40 : mtR 40 = (some FieldType.int) := rfl
theorem mc41 : mtC 41 = cX5_isInn := rfl
theorem mk41 : mtK 41 = 5 := rfl
theorem mm41 : mtM 41 = 2 := rfl
theorem mn41 : mtN 41 = 1 := rfl
theorem mr41 : mtR 41 = (some FieldType.boolean) := rfl
theorem mc42 : mtC 42 = cX5_ship := rfl
theorem mk42 : mtK 42 = 5 := rfl
theorem mm42 : mtM 42 = 3 := rfl
theorem mn42 : mtN 42 = 2 := rfl
theorem mr42 : mtR 42 = (some FieldType.int) := rfl
theorem mc43 : mtC 43 = cX5_isShip := rfl
theorem mk43 : mtK 43 = 5 := rfl
theorem mm43 : mtM 43 = 2 := rfl
theorem mn43 : mtN 43 = 1 := rfl
theorem mr43 : mtR 43 = (some FieldType.boolean) := rfl
theorem mc44 : mtC 44 = cX5_cap := rfl
theorem mk44 : mtK 44 = 5 := rfl
theorem mm44 : mtM 44 = 3 := rfl
theorem mn44 : mtN 44 = 1 := rfl
theorem mr44 : mtR 44 = (some FieldType.int) := rfl
theorem mc45 : mtC 45 = cX5_owes := rfl
theorem mk45 : mtK 45 = 5 := rfl
theorem mm45 : mtM 45 = 3 := rfl
theorem mn45 : mtN 45 = 2 := rfl
theorem mr45 : mtR 45 = (some FieldType.int) := rfl
theorem mc46 : mtC 46 = cX5_isDay := rfl
theorem mk46 : mtK 46 = 5 := rfl
theorem mm46 : mtM 46 = 1 := rfl
theorem mn46 : mtN 46 = 1 := rfl
theorem mr46 : mtR 46 = (some FieldType.boolean) := rfl
theorem mc47 : mtC 47 = cX5_month := rfl
theorem mk47 : mtK 47 = 5 := rfl
theorem mm47 : mtM 47 = 1 := rfl
theorem mn47 : mtN 47 = 0 := rfl
theorem mr47 : mtR 47 = (some (FieldType.object "TideMen$Days")) := rfl
theorem mc48 : mtC 48 = cX5_purse := rfl
theorem mk48 : mtK 48 = 5 := rfl
theorem mm48 : mtM 48 = 3 := rfl
theorem mn48 : mtN 48 = 2 := rfl
theorem mr48 : mtR 48 = (some FieldType.int) := rfl
theorem mc49 : mtC 49 = cX5_where := rfl
theorem mk49 : mtK 49 = 5 := rfl
theorem mm49 : mtM 49 = 3 := rfl
theorem mn49 : mtN 49 = 2 := rfl
theorem mr49 : mtR 49 = (some FieldType.int) := rfl
theorem mc50 : mtC 50 = cX5_takes := rfl
theorem mk50 : mtK 50 = 5 := rfl
theorem mm50 : mtM 50 = 4 := rfl
theorem mn50 : mtN 50 = 3 := rfl
theorem mr50 : mtR 50 = (some FieldType.int) := rfl
theorem mc51 : mtC 51 = cX5_crew := rfl
theorem mk51 : mtK 51 = 5 := rfl
theorem mm51 : mtM 51 = 4 := rfl
theorem mn51 : mtN 51 = 2 := rfl
theorem mr51 : mtR 51 = (some FieldType.int) := rfl
theorem mc52 : mtC 52 = cX5_richest := rfl
theorem mk52 : mtK 52 = 5 := rfl
theorem mm52 : mtM 52 = 6 := rfl
theorem mn52 : mtN 52 = 1 := rfl
theorem mr52 : mtR 52 = (some FieldType.int) := rfl
theorem mc53 : mtC 53 = cX5_last := rfl
theorem mk53 : mtK 53 = 5 := rfl
theorem mm53 : mtM 53 = 1 := rfl
theorem mn53 : mtN 53 = 0 := rfl
theorem mr53 : mtR 53 = (some FieldType.int) := rfl
theorem mc54 : mtC 54 = cX5_price := rfl
theorem mk54 : mtK 54 = 5 := rfl
theorem mm54 : mtM 54 = 6 := rfl
theorem mn54 : mtN 54 = 2 := rfl
theorem mr54 : mtR 54 = (some FieldType.int) := rfl
theorem mc55 : mtC 55 = cX5_lodge := rfl
theorem mk55 : mtK 55 = 5 := rfl
theorem mm55 : mtM 55 = 8 := rfl
theorem mn55 : mtN 55 = 2 := rfl
theorem mr55 : mtR 55 = (some FieldType.int) := rfl
theorem mc56 : mtC 56 = cX5_look := rfl
theorem mk56 : mtK 56 = 5 := rfl
theorem mm56 : mtM 56 = 3 := rfl
theorem mn56 : mtN 56 = 1 := rfl
theorem mr56 : mtR 56 = (some FieldType.int) := rfl
theorem mc57 : mtC 57 = cX5_leave := rfl
theorem mk57 : mtK 57 = 5 := rfl
theorem mm57 : mtM 57 = 5 := rfl
theorem mn57 : mtN 57 = 2 := rfl
theorem mr57 : mtR 57 = (some FieldType.int) := rfl
theorem mc58 : mtC 58 = cX5_learnFates := rfl
theorem mk58 : mtK 58 = 5 := rfl
theorem mm58 : mtM 58 = 2 := rfl
theorem mn58 : mtN 58 = 0 := rfl
theorem mr58 : mtR 58 = none := rfl
theorem mc59 : mtC 59 = cX5_fewestAbsent := rfl
theorem mk59 : mtK 59 = 5 := rfl
theorem mm59 : mtM 59 = 4 := rfl
theorem mn59 : mtN 59 = 1 := rfl
theorem mr59 : mtR 59 = (some FieldType.int) := rfl
theorem mc60 : mtC 60 = cX5_staysWithout := rfl
theorem mk60 : mtK 60 = 5 := rfl
theorem mm60 : mtM 60 = 3 := rfl
theorem mn60 : mtN 60 = 2 := rfl
theorem mr60 : mtR 60 = (some FieldType.boolean) := rfl
theorem mc61 : mtC 61 = cX5_seen := rfl
theorem mk61 : mtK 61 = 5 := rfl
theorem mm61 : mtM 61 = 4 := rfl
theorem mn61 : mtN 61 = 3 := rfl
theorem mr61 : mtR 61 = (some FieldType.int) := rfl
theorem mc62 : mtC 62 = cX5_forget := rfl
theorem mk62 : mtK 62 = 5 := rfl
theorem mm62 : mtM 62 = 2 := rfl
theorem mn62 : mtN 62 = 0 := rfl
theorem mr62 : mtR 62 = (some FieldType.int) := rfl
theorem mc63 : mtC 63 = cX5_read := rfl
theorem mk63 : mtK 63 = 5 := rfl
theorem mm63 : mtM 63 = 5 := rfl
theorem mn63 : mtN 63 = 1 := rfl
theorem mr63 : mtR 63 = (some FieldType.int) := rfl
theorem mc64 : mtC 64 = cX5_found := rfl
theorem mk64 : mtK 64 = 5 := rfl
theorem mm64 : mtM 64 = 2 := rfl
theorem mn64 : mtN 64 = 1 := rfl
theorem mr64 : mtR 64 = (some FieldType.int) := rfl
theorem mc65 : mtC 65 = cX5_never := rfl
theorem mk65 : mtK 65 = 5 := rfl
theorem mm65 : mtM 65 = 1 := rfl
theorem mn65 : mtN 65 = 0 := rfl
theorem mr65 : mtR 65 = (some FieldType.int) := rfl
theorem mc66 : mtC 66 = cX5_shipsThatFit := rfl
theorem mk66 : mtK 66 = 5 := rfl
theorem mm66 : mtM 66 = 4 := rfl
theorem mn66 : mtN 66 = 1 := rfl
theorem mr66 : mtR 66 = (some FieldType.int) := rfl
theorem mc67 : mtC 67 = cX5_was := rfl
theorem mk67 : mtK 67 = 5 := rfl
theorem mm67 : mtM 67 = 7 := rfl
theorem mn67 : mtN 67 = 2 := rfl
theorem mr67 : mtR 67 = (some FieldType.int) := rfl
theorem mc68 : mtC 68 = cX5_ask := rfl
theorem mk68 : mtK 68 = 5 := rfl
theorem mm68 : mtM 68 = 7 := rfl
theorem mn68 : mtN 68 = 1 := rfl
theorem mr68 : mtR 68 = (some FieldType.int) := rfl
theorem mc69 : mtC 69 = cX5_greatestAlike := rfl
theorem mk69 : mtK 69 = 5 := rfl
theorem mm69 : mtM 69 = 8 := rfl
theorem mn69 : mtN 69 = 2 := rfl
theorem mr69 : mtR 69 = (some FieldType.int) := rfl
theorem mc70 : mtC 70 = cX5_storm := rfl
theorem mk70 : mtK 70 = 5 := rfl
theorem mm70 : mtM 70 = 11 := rfl
theorem mn70 : mtN 70 = 4 := rfl
theorem mr70 : mtR 70 = (some FieldType.long) := rfl
theorem mc71 : mtC 71 = cX5_weight := rfl
theorem mk71 : mtK 71 = 5 := rfl
theorem mm71 : mtM 71 = 6 := rfl
theorem mn71 : mtN 71 = 2 := rfl
theorem mr71 : mtR 71 = (some FieldType.long) := rfl
theorem mc72 : mtC 72 = cX5_port := rfl
theorem mk72 : mtK 72 = 5 := rfl
theorem mm72 : mtM 72 = 5 := rfl
theorem mn72 : mtN 72 = 2 := rfl
theorem mr72 : mtR 72 = (some FieldType.int) := rfl
theorem mc73 : mtC 73 = cX5_sheet := rfl
theorem mk73 : mtK 73 = 5 := rfl
theorem mm73 : mtM 73 = 4 := rfl
theorem mn73 : mtN 73 = 3 := rfl
theorem mr73 : mtR 73 = (some FieldType.int) := rfl
theorem mc74 : mtC 74 = cX5_lose := rfl
theorem mk74 : mtK 74 = 5 := rfl
theorem mm74 : mtM 74 = 2 := rfl
theorem mn74 : mtN 74 = 1 := rfl
theorem mr74 : mtR 74 = (some FieldType.int) := rfl
theorem mc75 : mtC 75 = cX5_put := rfl
theorem mk75 : mtK 75 = 5 := rfl
theorem mm75 : mtM 75 = 6 := rfl
theorem mn75 : mtN 75 = 4 := rfl
theorem mr75 : mtR 75 = (some FieldType.int) := rfl
theorem mc76 : mtC 76 = cX5_refusalOf := rfl
theorem mk76 : mtK 76 = 5 := rfl
theorem mm76 : mtM 76 = 4 := rfl
theorem mn76 : mtN 76 = 3 := rfl
theorem mr76 : mtR 76 = (some FieldType.int) := rfl
theorem mc77 : mtC 77 = cX5_get := rfl
theorem mk77 : mtK 77 = 5 := rfl
theorem mm77 : mtM 77 = 4 := rfl
theorem mn77 : mtN 77 = 3 := rfl
theorem mr77 : mtR 77 = (some FieldType.int) := rfl
theorem mc78 : mtC 78 = cX5_copy := rfl
theorem mk78 : mtK 78 = 5 := rfl
theorem mm78 : mtM 78 = 8 := rfl
theorem mn78 : mtN 78 = 5 := rfl
theorem mr78 : mtR 78 = (some FieldType.int) := rfl
theorem mc79 : mtC 79 = cX5_write := rfl
theorem mk79 : mtK 79 = 5 := rfl
theorem mm79 : mtM 79 = 6 := rfl
theorem mn79 : mtN 79 = 2 := rfl
theorem mr79 : mtR 79 = (some FieldType.int) := rfl
theorem mc80 : mtC 80 = cX5_count := rfl
theorem mk80 : mtK 80 = 5 := rfl
theorem mm80 : mtM 80 = 2 := rfl
theorem mn80 : mtN 80 = 1 := rfl
theorem mr80 : mtR 80 = (some FieldType.int) := rfl
theorem mc81 : mtC 81 = cX5_digest := rfl
theorem mk81 : mtK 81 = 5 := rfl
theorem mm81 : mtM 81 = 4 := rfl
theorem mn81 : mtN 81 = 0 := rfl
theorem mr81 : mtR 81 = (some FieldType.long) := rfl
theorem mc82 : mtC 82 = cX5_mix := rfl
theorem mk82 : mtK 82 = 5 := rfl
theorem mm82 : mtM 82 = 4 := rfl
theorem mn82 : mtN 82 = 2 := rfl
theorem mr82 : mtR 82 = (some FieldType.long) := rfl
theorem mc83 : mtC 83 = cX5_mixDaysOf := rfl
theorem mk83 : mtK 83 = 5 := rfl
theorem mm83 : mtM 83 = 7 := rfl
theorem mn83 : mtN 83 = 2 := rfl
theorem mr83 : mtR 83 = (some FieldType.long) := rfl
theorem mc84 : mtC 84 = cX5_mixPlansOf := rfl
theorem mk84 : mtK 84 = 5 := rfl
theorem mm84 : mtM 84 = 6 := rfl
theorem mn84 : mtN 84 = 2 := rfl
theorem mr84 : mtR 84 = (some FieldType.long) := rfl
theorem mc85 : mtC 85 = cX5_mixInn := rfl
theorem mk85 : mtK 85 = 5 := rfl
theorem mm85 : mtM 85 = 6 := rfl
theorem mn85 : mtN 85 = 2 := rfl
theorem mr85 : mtR 85 = (some FieldType.long) := rfl
theorem mc86 : mtC 86 = cX5_mixShip := rfl
theorem mk86 : mtK 86 = 5 := rfl
theorem mm86 : mtM 86 = 7 := rfl
theorem mn86 : mtN 86 = 2 := rfl
theorem mr86 : mtR 86 = (some FieldType.long) := rfl
theorem mc87 : mtC 87 = cX6_type := rfl
theorem mk87 : mtK 87 = 6 := rfl
theorem mm87 : mtM 87 = 3 := rfl
theorem mn87 : mtN 87 = 2 := rfl
theorem mr87 : mtR 87 = (some FieldType.int) := rfl
theorem mc88 : mtC 88 = cX6_isText := rfl
theorem mk88 : mtK 88 = 6 := rfl
theorem mm88 : mtM 88 = 1 := rfl
theorem mn88 : mtN 88 = 1 := rfl
theorem mr88 : mtR 88 = (some FieldType.boolean) := rfl
theorem mc89 : mtC 89 = cX6_in := rfl
theorem mk89 : mtK 89 = 6 := rfl
theorem mm89 : mtM 89 = 3 := rfl
theorem mn89 : mtN 89 = 3 := rfl
theorem mr89 : mtR 89 = (some FieldType.boolean) := rfl
theorem mc90 : mtC 90 = cX6_wipe := rfl
theorem mk90 : mtK 90 = 6 := rfl
theorem mm90 : mtM 90 = 3 := rfl
theorem mn90 : mtN 90 = 1 := rfl
theorem mr90 : mtR 90 = (some FieldType.int) := rfl
theorem mc91 : mtC 91 = cX6_undo := rfl
theorem mk91 : mtK 91 = 6 := rfl
theorem mm91 : mtM 91 = 2 := rfl
theorem mn91 : mtN 91 = 1 := rfl
theorem mr91 : mtR 91 = (some FieldType.int) := rfl
theorem mc92 : mtC 92 = cX6_fault := rfl
theorem mk92 : mtK 92 = 6 := rfl
theorem mm92 : mtM 92 = 2 := rfl
theorem mn92 : mtN 92 = 1 := rfl
theorem mr92 : mtR 92 = (some FieldType.int) := rfl
theorem mc93 : mtC 93 = cX6_faultOf := rfl
theorem mk93 : mtK 93 = 6 := rfl
theorem mm93 : mtM 93 = 5 := rfl
theorem mn93 : mtN 93 = 1 := rfl
theorem mr93 : mtR 93 = (some FieldType.int) := rfl
theorem mc94 : mtC 94 = cX6_readsParts := rfl
theorem mk94 : mtK 94 = 6 := rfl
theorem mm94 : mtM 94 = 7 := rfl
theorem mn94 : mtN 94 = 1 := rfl
theorem mr94 : mtR 94 = (some FieldType.int) := rfl
theorem mc95 : mtC 95 = cX6_keeps := rfl
theorem mk95 : mtK 95 = 6 := rfl
theorem mm95 : mtM 95 = 3 := rfl
theorem mn95 : mtN 95 = 2 := rfl
theorem mr95 : mtR 95 = none := rfl
theorem mc96 : mtC 96 = cX6_readsSailor := rfl
theorem mk96 : mtK 96 = 6 := rfl
theorem mm96 : mtM 96 = 8 := rfl
theorem mn96 : mtN 96 = 2 := rfl
theorem mr96 : mtR 96 = (some FieldType.int) := rfl
theorem mc97 : mtC 97 = cX6_byteAt := rfl
theorem mk97 : mtK 97 = 6 := rfl
theorem mm97 : mtM 97 = 3 := rfl
theorem mn97 : mtN 97 = 2 := rfl
theorem mr97 : mtR 97 = (some FieldType.int) := rfl
theorem mc98 : mtC 98 = cX6_figureAt := rfl
theorem mk98 : mtK 98 = 6 := rfl
theorem mm98 : mtM 98 = 6 := rfl
theorem mn98 : mtN 98 = 4 := rfl
theorem mr98 : mtR 98 = (some FieldType.int) := rfl
theorem mc99 : mtC 99 = cX6_readsHouse := rfl
theorem mk99 : mtK 99 = 6 := rfl
theorem mm99 : mtM 99 = 5 := rfl
theorem mn99 : mtN 99 = 2 := rfl
theorem mr99 : mtR 99 = (some FieldType.int) := rfl
theorem mc100 : mtC 100 = cX6_readsShip := rfl
theorem mk100 : mtK 100 = 6 := rfl
theorem mm100 : mtM 100 = 4 := rfl
theorem mn100 : mtN 100 = 2 := rfl
theorem mr100 : mtR 100 = (some FieldType.int) := rfl
theorem mc101 : mtC 101 = cX6_sailor := rfl
theorem mk101 : mtK 101 = 6 := rfl
theorem mm101 : mtM 101 = 3 := rfl
theorem mn101 : mtN 101 = 2 := rfl
theorem mr101 : mtR 101 = (some FieldType.int) := rfl
theorem mc102 : mtC 102 = cX6_isSailor := rfl
theorem mk102 : mtK 102 = 6 := rfl
theorem mm102 : mtM 102 = 2 := rfl
theorem mn102 : mtN 102 = 1 := rfl
theorem mr102 : mtR 102 = (some FieldType.boolean) := rfl
theorem mc103 : mtC 103 = cX6_reads := rfl
theorem mk103 : mtK 103 = 6 := rfl
theorem mm103 : mtM 103 = 2 := rfl
theorem mn103 : mtN 103 = 0 := rfl
theorem mr103 : mtR 103 = none := rfl
theorem mc104 : mtC 104 = cX6_sailorOf := rfl
theorem mk104 : mtK 104 = 6 := rfl
theorem mm104 : mtM 104 = 3 := rfl
theorem mn104 : mtN 104 = 2 := rfl
theorem mr104 : mtR 104 = (some FieldType.int) := rfl
theorem mc105 : mtC 105 = cX6_house := rfl
theorem mk105 : mtK 105 = 6 := rfl
theorem mm105 : mtM 105 = 3 := rfl
theorem mn105 : mtN 105 = 2 := rfl
theorem mr105 : mtR 105 = (some FieldType.int) := rfl
theorem mc106 : mtC 106 = cX6_isHouse := rfl
theorem mk106 : mtK 106 = 6 := rfl
theorem mm106 : mtM 106 = 2 := rfl
theorem mn106 : mtN 106 = 1 := rfl
theorem mr106 : mtR 106 = (some FieldType.boolean) := rfl
theorem mc107 : mtC 107 = cX6_ship := rfl
theorem mk107 : mtK 107 = 6 := rfl
theorem mm107 : mtM 107 = 3 := rfl
theorem mn107 : mtN 107 = 2 := rfl
theorem mr107 : mtR 107 = (some FieldType.int) := rfl
theorem mc108 : mtC 108 = cX6_isShip := rfl
theorem mk108 : mtK 108 = 6 := rfl
theorem mm108 : mtM 108 = 2 := rfl
theorem mn108 : mtN 108 = 1 := rfl
theorem mr108 : mtR 108 = (some FieldType.boolean) := rfl
theorem mc109 : mtC 109 = cX6_shipOf := rfl
theorem mk109 : mtK 109 = 6 := rfl
theorem mm109 : mtM 109 = 3 := rfl
theorem mn109 : mtN 109 = 2 := rfl
theorem mr109 : mtR 109 = (some FieldType.int) := rfl
theorem mc110 : mtC 110 = cX6_cap := rfl
theorem mk110 : mtK 110 = 6 := rfl
theorem mm110 : mtM 110 = 3 := rfl
theorem mn110 : mtN 110 = 1 := rfl
theorem mr110 : mtR 110 = (some FieldType.int) := rfl
theorem mc111 : mtC 111 = cX6_owes := rfl
theorem mk111 : mtK 111 = 6 := rfl
theorem mm111 : mtM 111 = 3 := rfl
theorem mn111 : mtN 111 = 2 := rfl
theorem mr111 : mtR 111 = (some FieldType.int) := rfl
theorem mc112 : mtC 112 = cX6_isDay := rfl
theorem mk112 : mtK 112 = 6 := rfl
theorem mm112 : mtM 112 = 1 := rfl
theorem mn112 : mtN 112 = 1 := rfl
theorem mr112 : mtR 112 = (some FieldType.boolean) := rfl
theorem mc113 : mtC 113 = cX6_owesOf := rfl
theorem mk113 : mtK 113 = 6 := rfl
theorem mm113 : mtM 113 = 3 := rfl
theorem mn113 : mtN 113 = 2 := rfl
theorem mr113 : mtR 113 = (some FieldType.int) := rfl
theorem mc114 : mtC 114 = cX6_runsTold := rfl
theorem mk114 : mtK 114 = 6 := rfl
theorem mm114 : mtM 114 = 2 := rfl
theorem mn114 : mtN 114 = 1 := rfl
theorem mr114 : mtR 114 = none := rfl
theorem mc115 : mtC 115 = cX6_runs := rfl
theorem mk115 : mtK 115 = 6 := rfl
theorem mm115 : mtM 115 = 3 := rfl
theorem mn115 : mtN 115 = 1 := rfl
theorem mr115 : mtR 115 = none := rfl
theorem mc116 : mtC 116 = cX6_begins := rfl
theorem mk116 : mtK 116 = 6 := rfl
theorem mm116 : mtM 116 = 4 := rfl
theorem mn116 : mtN 116 = 0 := rfl
theorem mr116 : mtR 116 = none := rfl
theorem mc117 : mtC 117 = cX6_goesBy := rfl
theorem mk117 : mtK 117 = 6 := rfl
theorem mm117 : mtM 117 = 6 := rfl
theorem mn117 : mtN 117 = 1 := rfl
theorem mr117 : mtR 117 = none := rfl
theorem mc118 : mtC 118 = cX6_isIn := rfl
theorem mk118 : mtK 118 = 6 := rfl
theorem mm118 : mtM 118 = 2 := rfl
theorem mn118 : mtN 118 = 2 := rfl
theorem mr118 : mtR 118 = (some FieldType.boolean) := rfl
theorem mc119 : mtC 119 = cX6_comes := rfl
theorem mk119 : mtK 119 = 6 := rfl
theorem mm119 : mtM 119 = 6 := rfl
theorem mn119 : mtN 119 = 2 := rfl
theorem mr119 : mtR 119 = none := rfl
theorem mc120 : mtC 120 = cX6_nextFor := rfl
theorem mk120 : mtK 120 = 6 := rfl
theorem mm120 : mtM 120 = 5 := rfl
theorem mn120 : mtN 120 = 1 := rfl
theorem mr120 : mtR 120 = (some FieldType.int) := rfl
theorem mc121 : mtC 121 = cX6_purse := rfl
theorem mk121 : mtK 121 = 6 := rfl
theorem mm121 : mtM 121 = 3 := rfl
theorem mn121 : mtN 121 = 2 := rfl
theorem mr121 : mtR 121 = (some FieldType.int) := rfl
theorem mc122 : mtC 122 = cX6_purseOf := rfl
theorem mk122 : mtK 122 = 6 := rfl
theorem mm122 : mtM 122 = 3 := rfl
theorem mn122 : mtN 122 = 2 := rfl
theorem mr122 : mtR 122 = (some FieldType.int) := rfl
theorem mc123 : mtC 123 = cX6_where := rfl
theorem mk123 : mtK 123 = 6 := rfl
theorem mm123 : mtM 123 = 3 := rfl
theorem mn123 : mtN 123 = 2 := rfl
theorem mr123 : mtR 123 = (some FieldType.int) := rfl
theorem mc124 : mtC 124 = cX6_whereOf := rfl
theorem mk124 : mtK 124 = 6 := rfl
theorem mm124 : mtM 124 = 3 := rfl
theorem mn124 : mtN 124 = 2 := rfl
theorem mr124 : mtR 124 = (some FieldType.int) := rfl
theorem mc125 : mtC 125 = cX6_takes := rfl
theorem mk125 : mtK 125 = 6 := rfl
theorem mm125 : mtM 125 = 4 := rfl
theorem mn125 : mtN 125 = 3 := rfl
theorem mr125 : mtR 125 = (some FieldType.int) := rfl
theorem mc126 : mtC 126 = cX6_takesOf := rfl
theorem mk126 : mtK 126 = 6 := rfl
theorem mm126 : mtM 126 = 6 := rfl
theorem mn126 : mtN 126 = 3 := rfl
theorem mr126 : mtR 126 = (some FieldType.int) := rfl
theorem mc127 : mtC 127 = cX6_crew := rfl
theorem mk127 : mtK 127 = 6 := rfl
theorem mm127 : mtM 127 = 3 := rfl
theorem mn127 : mtN 127 = 2 := rfl
theorem mr127 : mtR 127 = (some FieldType.int) := rfl
theorem mc128 : mtC 128 = cX6_crewOf := rfl
theorem mk128 : mtK 128 = 6 := rfl
theorem mm128 : mtM 128 = 3 := rfl
theorem mn128 : mtN 128 = 2 := rfl
theorem mr128 : mtR 128 = (some FieldType.int) := rfl
theorem mc129 : mtC 129 = cX6_soundNow := rfl
theorem mk129 : mtK 129 = 6 := rfl
theorem mm129 : mtM 129 = 4 := rfl
theorem mn129 : mtN 129 = 1 := rfl
theorem mr129 : mtR 129 = (some FieldType.int) := rfl
theorem mc130 : mtC 130 = cX6_ones := rfl
theorem mk130 : mtK 130 = 6 := rfl
theorem mm130 : mtM 130 = 3 := rfl
theorem mn130 : mtN 130 = 1 := rfl
theorem mr130 : mtR 130 = (some FieldType.int) := rfl
theorem mc131 : mtC 131 = cX6_richest := rfl
theorem mk131 : mtK 131 = 6 := rfl
theorem mm131 : mtM 131 = 2 := rfl
theorem mn131 : mtN 131 = 1 := rfl
theorem mr131 : mtR 131 = (some FieldType.int) := rfl
theorem mc132 : mtC 132 = cX6_richestOf := rfl
theorem mk132 : mtK 132 = 6 := rfl
theorem mm132 : mtM 132 = 4 := rfl
theorem mn132 : mtN 132 = 1 := rfl
theorem mr132 : mtR 132 = (some FieldType.int) := rfl
theorem mc133 : mtC 133 = cX6_last := rfl
theorem mk133 : mtK 133 = 6 := rfl
theorem mm133 : mtM 133 = 1 := rfl
theorem mn133 : mtN 133 = 0 := rfl
theorem mr133 : mtR 133 = (some FieldType.int) := rfl
theorem mc134 : mtC 134 = cX6_lastOf := rfl
theorem mk134 : mtK 134 = 6 := rfl
theorem mm134 : mtM 134 = 1 := rfl
theorem mn134 : mtN 134 = 0 := rfl
theorem mr134 : mtR 134 = (some FieldType.int) := rfl
theorem mc135 : mtC 135 = cX6_price := rfl
theorem mk135 : mtK 135 = 6 := rfl
theorem mm135 : mtM 135 = 3 := rfl
theorem mn135 : mtN 135 = 2 := rfl
theorem mr135 : mtR 135 = (some FieldType.int) := rfl
theorem mc136 : mtC 136 = cX6_priceOf := rfl
theorem mk136 : mtK 136 = 6 := rfl
theorem mm136 : mtM 136 = 8 := rfl
theorem mn136 : mtN 136 = 2 := rfl
theorem mr136 : mtR 136 = (some FieldType.int) := rfl
theorem mc137 : mtC 137 = cX6_lodge := rfl
theorem mk137 : mtK 137 = 6 := rfl
theorem mm137 : mtM 137 = 3 := rfl
theorem mn137 : mtN 137 = 2 := rfl
theorem mr137 : mtR 137 = (some FieldType.int) := rfl
theorem mc138 : mtC 138 = cX6_lodgeOf := rfl
theorem mk138 : mtK 138 = 6 := rfl
theorem mm138 : mtM 138 = 9 := rfl
theorem mn138 : mtN 138 = 2 := rfl
theorem mr138 : mtR 138 = (some FieldType.int) := rfl
theorem mc139 : mtC 139 = cX6_look := rfl
theorem mk139 : mtK 139 = 6 := rfl
theorem mm139 : mtM 139 = 2 := rfl
theorem mn139 : mtN 139 = 1 := rfl
theorem mr139 : mtR 139 = (some FieldType.int) := rfl
theorem mc140 : mtC 140 = cX6_lookOf := rfl
theorem mk140 : mtK 140 = 6 := rfl
theorem mm140 : mtM 140 = 5 := rfl
theorem mn140 : mtN 140 = 1 := rfl
theorem mr140 : mtR 140 = (some FieldType.int) := rfl
theorem mc141 : mtC 141 = cX6_leave := rfl
theorem mk141 : mtK 141 = 6 := rfl
theorem mm141 : mtM 141 = 3 := rfl
theorem mn141 : mtN 141 = 2 := rfl
theorem mr141 : mtR 141 = (some FieldType.int) := rfl
theorem mc142 : mtC 142 = cX6_leaveBy := rfl
theorem mk142 : mtK 142 = 6 := rfl
theorem mm142 : mtM 142 = 4 := rfl
theorem mn142 : mtN 142 = 1 := rfl
theorem mr142 : mtR 142 = (some FieldType.int) := rfl
theorem mc143 : mtC 143 = cX6_isLeft := rfl
theorem mk143 : mtK 143 = 6 := rfl
theorem mm143 : mtM 143 = 3 := rfl
theorem mn143 : mtN 143 = 2 := rfl
theorem mr143 : mtR 143 = (some FieldType.boolean) := rfl
theorem mc144 : mtC 144 = cX6_ofRow := rfl
theorem mk144 : mtK 144 = 6 := rfl
theorem mm144 : mtM 144 = 3 := rfl
theorem mn144 : mtN 144 = 2 := rfl
theorem mr144 : mtR 144 = (some FieldType.int) := rfl
theorem mc145 : mtC 145 = cX6_seen := rfl
theorem mk145 : mtK 145 = 6 := rfl
theorem mm145 : mtM 145 = 4 := rfl
theorem mn145 : mtN 145 = 3 := rfl
theorem mr145 : mtR 145 = (some FieldType.int) := rfl
theorem mc146 : mtC 146 = cX6_forget := rfl
theorem mk146 : mtK 146 = 6 := rfl
theorem mm146 : mtM 146 = 2 := rfl
theorem mn146 : mtN 146 = 0 := rfl
theorem mr146 : mtR 146 = (some FieldType.int) := rfl
theorem mc147 : mtC 147 = cX6_read := rfl
theorem mk147 : mtK 147 = 6 := rfl
theorem mm147 : mtM 147 = 3 := rfl
theorem mn147 : mtN 147 = 1 := rfl
theorem mr147 : mtR 147 = (some FieldType.int) := rfl
theorem mc148 : mtC 148 = cX6_isSheet := rfl
theorem mk148 : mtK 148 = 6 := rfl
theorem mm148 : mtM 148 = 1 := rfl
theorem mn148 : mtN 148 = 1 := rfl
theorem mr148 : mtR 148 = (some FieldType.boolean) := rfl
theorem mc149 : mtC 149 = cX6_meets := rfl
theorem mk149 : mtK 149 = 6 := rfl
theorem mm149 : mtM 149 = 2 := rfl
theorem mn149 : mtN 149 = 1 := rfl
theorem mr149 : mtR 149 = (some FieldType.int) := rfl
theorem mc150 : mtC 150 = cX6_never := rfl
theorem mk150 : mtK 150 = 6 := rfl
theorem mm150 : mtM 150 = 1 := rfl
theorem mn150 : mtN 150 = 0 := rfl
theorem mr150 : mtR 150 = (some FieldType.int) := rfl
theorem mc151 : mtC 151 = cX6_neverNow := rfl
theorem mk151 : mtK 151 = 6 := rfl
theorem mm151 : mtM 151 = 3 := rfl
theorem mn151 : mtN 151 = 0 := rfl
theorem mr151 : mtR 151 = (some FieldType.int) := rfl
theorem mc152 : mtC 152 = cX6_isSeen := rfl
theorem mk152 : mtK 152 = 6 := rfl
theorem mm152 : mtM 152 = 4 := rfl
theorem mn152 : mtN 152 = 0 := rfl
theorem mr152 : mtR 152 = (some FieldType.boolean) := rfl
theorem mc153 : mtC 153 = cX6_was := rfl
theorem mk153 : mtK 153 = 6 := rfl
theorem mm153 : mtM 153 = 3 := rfl
theorem mn153 : mtN 153 = 2 := rfl
theorem mr153 : mtR 153 = (some FieldType.int) := rfl
theorem mc154 : mtC 154 = cX6_wasOf := rfl
theorem mk154 : mtK 154 = 6 := rfl
theorem mm154 : mtM 154 = 7 := rfl
theorem mn154 : mtN 154 = 2 := rfl
theorem mr154 : mtR 154 = (some FieldType.int) := rfl
theorem mc155 : mtC 155 = cX6_ask := rfl
theorem mk155 : mtK 155 = 6 := rfl
theorem mm155 : mtM 155 = 2 := rfl
theorem mn155 : mtN 155 = 1 := rfl
theorem mr155 : mtR 155 = (some FieldType.int) := rfl
theorem mc156 : mtC 156 = cX6_askOf := rfl
theorem mk156 : mtK 156 = 6 := rfl
theorem mm156 : mtM 156 = 10 := rfl
theorem mn156 : mtN 156 = 1 := rfl
theorem mr156 : mtR 156 = (some FieldType.int) := rfl
theorem mc157 : mtC 157 = cX6_storm := rfl
theorem mk157 : mtK 157 = 6 := rfl
theorem mm157 : mtM 157 = 5 := rfl
theorem mn157 : mtN 157 = 4 := rfl
theorem mr157 : mtR 157 = (some FieldType.long) := rfl
theorem mc158 : mtC 158 = cX6_stormOf := rfl
theorem mk158 : mtK 158 = 6 := rfl
theorem mm158 : mtM 158 = 11 := rfl
theorem mn158 : mtN 158 = 4 := rfl
theorem mr158 : mtR 158 = (some FieldType.long) := rfl
theorem mc159 : mtC 159 = cX6_lowest := rfl
theorem mk159 : mtK 159 = 6 := rfl
theorem mm159 : mtM 159 = 11 := rfl
theorem mn159 : mtN 159 = 3 := rfl
theorem mr159 : mtR 159 = (some FieldType.long) := rfl
theorem mc160 : mtC 160 = cX6_no := rfl
theorem mk160 : mtK 160 = 6 := rfl
theorem mm160 : mtM 160 = 1 := rfl
theorem mn160 : mtN 160 = 1 := rfl
theorem mr160 : mtR 160 = (some FieldType.long) := rfl
theorem mc161 : mtC 161 = cX6_port := rfl
theorem mk161 : mtK 161 = 6 := rfl
theorem mm161 : mtM 161 = 3 := rfl
theorem mn161 : mtN 161 = 2 := rfl
theorem mr161 : mtR 161 = (some FieldType.int) := rfl
theorem mc162 : mtC 162 = cX6_portOf := rfl
theorem mk162 : mtK 162 = 6 := rfl
theorem mm162 : mtM 162 = 5 := rfl
theorem mn162 : mtN 162 = 2 := rfl
theorem mr162 : mtR 162 = (some FieldType.int) := rfl
theorem mc163 : mtC 163 = cX6_sailNow := rfl
theorem mk163 : mtK 163 = 6 := rfl
theorem mm163 : mtM 163 = 3 := rfl
theorem mn163 : mtN 163 = 0 := rfl
theorem mr163 : mtR 163 = (some FieldType.int) := rfl
theorem mc164 : mtC 164 = cX6_sheet := rfl
theorem mk164 : mtK 164 = 6 := rfl
theorem mm164 : mtM 164 = 5 := rfl
theorem mn164 : mtN 164 = 3 := rfl
theorem mr164 : mtR 164 = (some FieldType.int) := rfl
theorem mc165 : mtC 165 = cX6_lose := rfl
theorem mk165 : mtK 165 = 6 := rfl
theorem mm165 : mtM 165 = 2 := rfl
theorem mn165 : mtN 165 = 1 := rfl
theorem mr165 : mtR 165 = (some FieldType.int) := rfl
theorem mc166 : mtC 166 = cX6_put := rfl
theorem mk166 : mtK 166 = 6 := rfl
theorem mm166 : mtM 166 = 6 := rfl
theorem mn166 : mtN 166 = 4 := rfl
theorem mr166 : mtR 166 = (some FieldType.int) := rfl
theorem mc167 : mtC 167 = cX6_lacks := rfl
theorem mk167 : mtK 167 = 6 := rfl
theorem mm167 : mtM 167 = 4 := rfl
theorem mn167 : mtN 167 = 3 := rfl
theorem mr167 : mtR 167 = (some FieldType.int) := rfl
theorem mc168 : mtC 168 = cX6_keep := rfl
theorem mk168 : mtK 168 = 6 := rfl
theorem mm168 : mtM 168 = 4 := rfl
theorem mn168 : mtN 168 = 3 := rfl
theorem mr168 : mtR 168 = none := rfl
theorem mc169 : mtC 169 = cX6_get := rfl
theorem mk169 : mtK 169 = 6 := rfl
theorem mm169 : mtM 169 = 5 := rfl
theorem mn169 : mtN 169 = 3 := rfl
theorem mr169 : mtR 169 = (some FieldType.int) := rfl
theorem mc170 : mtC 170 = cX6_copy := rfl
theorem mk170 : mtK 170 = 6 := rfl
theorem mm170 : mtM 170 = 7 := rfl
theorem mn170 : mtN 170 = 5 := rfl
theorem mr170 : mtR 170 = (some FieldType.int) := rfl
theorem mc171 : mtC 171 = cX6_write := rfl
theorem mk171 : mtK 171 = 6 := rfl
theorem mm171 : mtM 171 = 4 := rfl
theorem mn171 : mtN 171 = 2 := rfl
theorem mr171 : mtR 171 = (some FieldType.int) := rfl
theorem mc172 : mtC 172 = cX6_count := rfl
theorem mk172 : mtK 172 = 6 := rfl
theorem mm172 : mtM 172 = 2 := rfl
theorem mn172 : mtN 172 = 1 := rfl
theorem mr172 : mtR 172 = (some FieldType.int) := rfl
theorem mc173 : mtC 173 = cX6_sumOf := rfl
theorem mk173 : mtK 173 = 6 := rfl
theorem mm173 : mtM 173 = 2 := rfl
theorem mn173 : mtN 173 = 1 := rfl
theorem mr173 : mtR 173 = (some FieldType.int) := rfl
theorem mc174 : mtC 174 = cX6_digest := rfl
theorem mk174 : mtK 174 = 6 := rfl
theorem mm174 : mtM 174 = 4 := rfl
theorem mn174 : mtN 174 = 0 := rfl
theorem mr174 : mtR 174 = (some FieldType.long) := rfl
theorem mc175 : mtC 175 = cX6_sailorDigest := rfl
theorem mk175 : mtK 175 = 6 := rfl
theorem mm175 : mtM 175 = 7 := rfl
theorem mn175 : mtN 175 = 2 := rfl
theorem mr175 : mtR 175 = (some FieldType.long) := rfl
theorem mc176 : mtC 176 = cX6_houseDigest := rfl
theorem mk176 : mtK 176 = 6 := rfl
theorem mm176 : mtM 176 = 6 := rfl
theorem mn176 : mtN 176 = 2 := rfl
theorem mr176 : mtR 176 = (some FieldType.long) := rfl
theorem mc177 : mtC 177 = cX6_shipDigest := rfl
theorem mk177 : mtK 177 = 6 := rfl
theorem mm177 : mtM 177 = 7 := rfl
theorem mn177 : mtN 177 = 2 := rfl
theorem mr177 : mtR 177 = (some FieldType.long) := rfl
theorem mc178 : mtC 178 = cJ0_length_8abf5 := rfl
theorem mk178 : mtK 178 = 7 := rfl
theorem mm178 : mtM 178 = 1 := rfl
theorem mn178 : mtN 178 = 0 := rfl
theorem mr178 : mtR 178 = (some FieldType.int) := rfl
theorem mc179 : mtC 179 = cJ0_coder_7d493 := rfl
theorem mk179 : mtK 179 = 7 := rfl
theorem mm179 : mtM 179 = 1 := rfl
theorem mn179 : mtN 179 = 0 := rfl
theorem mr179 : mtR 179 = (some FieldType.byte) := rfl
theorem mc180 : mtC 180 = cJ0_charAt_5068e := rfl
theorem mk180 : mtK 180 = 7 := rfl
theorem mm180 : mtM 180 = 2 := rfl
theorem mn180 : mtN 180 = 1 := rfl
theorem mr180 : mtR 180 = (some FieldType.char) := rfl
theorem mc181 : mtC 181 = cJ0_isLatin1_aae02 := rfl
theorem mk181 : mtK 181 = 7 := rfl
theorem mm181 : mtM 181 = 1 := rfl
theorem mn181 : mtN 181 = 0 := rfl
theorem mr181 : mtR 181 = (some FieldType.boolean) := rfl
theorem mc182 : mtC 182 = cJ0_checkIndex_df160 := rfl
theorem mk182 : mtK 182 = 7 := rfl
theorem mm182 : mtM 182 = 2 := rfl
theorem mn182 : mtN 182 = 2 := rfl
theorem mr182 : mtR 182 = none := rfl
theorem mc183 : mtC 183 = cJ0_indexOf_0f7a4 := rfl
theorem mk183 : mtK 183 = 7 := rfl
theorem mm183 : mtM 183 = 2 := rfl
theorem mn183 : mtN 183 = 1 := rfl
theorem mr183 : mtR 183 = (some FieldType.int) := rfl
theorem mc184 : mtC 184 = cJ0_indexOf_7cf53 := rfl
theorem mk184 : mtK 184 = 7 := rfl
theorem mm184 : mtM 184 = 3 := rfl
theorem mn184 : mtN 184 = 2 := rfl
theorem mr184 : mtR 184 = (some FieldType.int) := rfl
theorem mc185 : mtC 185 = cJ1_charAt_3b067 := rfl
theorem mk185 : mtK 185 = 8 := rfl
theorem mm185 : mtM 185 = 2 := rfl
theorem mn185 : mtN 185 = 2 := rfl
theorem mr185 : mtR 185 = (some FieldType.char) := rfl
theorem mc186 : mtC 186 = cJ1_indexOf_4cfef := rfl
theorem mk186 : mtK 186 = 8 := rfl
theorem mm186 : mtM 186 = 4 := rfl
theorem mn186 : mtN 186 = 4 := rfl
theorem mr186 : mtR 186 = (some FieldType.int) := rfl
theorem mc187 : mtC 187 = cJ1_canEncode_9a6ad := rfl
theorem mk187 : mtK 187 = 8 := rfl
theorem mm187 : mtM 187 = 1 := rfl
theorem mn187 : mtN 187 = 1 := rfl
theorem mr187 : mtR 187 = (some FieldType.boolean) := rfl
theorem mc188 : mtC 188 = cJ1_indexOfChar_4cfef := rfl
theorem mk188 : mtK 188 = 8 := rfl
theorem mm188 : mtM 188 = 6 := rfl
theorem mn188 : mtN 188 = 4 := rfl
theorem mr188 : mtR 188 = (some FieldType.int) := rfl
theorem mc189 : mtC 189 = cJ3_checkIndex_8e157 := rfl
theorem mk189 : mtK 189 = 10 := rfl
theorem mm189 : mtM 189 = 3 := rfl
theorem mn189 : mtN 189 = 3 := rfl
theorem mr189 : mtR 189 = (some FieldType.int) := rfl
theorem mc190 : mtC 190 = cJ6_numberOfLeadingZeros_0f7a4 := rfl
theorem mk190 : mtK 190 = 11 := rfl
theorem mm190 : mtM 190 = 2 := rfl
theorem mn190 : mtN 190 = 1 := rfl
theorem mr190 : mtR 190 = (some FieldType.int) := rfl
theorem mc191 : mtC 191 = cJ6_bitCount_0f7a4 := rfl
theorem mk191 : mtK 191 = 11 := rfl
theorem mm191 : mtM 191 = 1 := rfl
theorem mn191 : mtN 191 = 1 := rfl
theorem mr191 : mtR 191 = (some FieldType.int) := rfl
theorem mc192 : mtC 192 = cJ6_numberOfTrailingZeros_0f7a4 := rfl
theorem mk192 : mtK 192 = 11 := rfl
theorem mm192 : mtM 192 = 2 := rfl
theorem mn192 : mtN 192 = 1 := rfl
theorem mr192 : mtR 192 = (some FieldType.int) := rfl
theorem mc193 : mtC 193 = cL_law := rfl
theorem mk193 : mtK 193 = 15 := rfl
theorem mm193 : mtM 193 = 4 := rfl
theorem mn193 : mtN 193 = 1 := rfl
theorem mr193 : mtR 193 = (some .boolean) := rfl
theorem ly0 : lay 0 = (0, 5, 12) := by decide +kernel
theorem rf0_0 : rf 0 0 = some 1 := by decide +kernel
theorem rf0_1 : rf 0 1 = some 30 := by decide +kernel
theorem rf0_2 : rf 0 2 = some 44 := by decide +kernel
theorem rf0_3 : rf 0 3 = some 8 := by decide +kernel
theorem rf0_4 : rf 0 4 = some 19 := by decide +kernel
theorem rf0_5 : rf 0 5 = some 58 := by decide +kernel
theorem rf0_6 : rf 0 6 = some 59 := by decide +kernel
theorem rf0_7 : rf 0 7 = some 60 := by decide +kernel
theorem rf0_8 : rf 0 8 = some 64 := by decide +kernel
theorem rf0_9 : rf 0 9 = none := by decide +kernel
theorem rf0_10 : rf 0 10 = none := by decide +kernel
theorem rf0_11 : rf 0 11 = none := by decide +kernel
theorem ly1 : lay 1 = (2, 3, 3) := by decide +kernel
theorem rf1_0 : rf 1 0 = some 2 := by decide +kernel
theorem rf1_1 : rf 1 1 = some 3 := by decide +kernel
theorem rf1_2 : rf 1 2 = some 4 := by decide +kernel
theorem ly2 : lay 2 = (0, 3, 3) := by decide +kernel
theorem rf2_0 : rf 2 0 = some 104 := by decide +kernel
theorem rf2_1 : rf 2 1 = some 5 := by decide +kernel
theorem rf2_2 : rf 2 2 = none := by decide +kernel
theorem ly3 : lay 3 = (0, 3, 3) := by decide +kernel
theorem rf3_0 : rf 3 0 = some 106 := by decide +kernel
theorem rf3_1 : rf 3 1 = some 6 := by decide +kernel
theorem rf3_2 : rf 3 2 = none := by decide +kernel
theorem ly4 : lay 4 = (0, 3, 3) := by decide +kernel
theorem rf4_0 : rf 4 0 = some 108 := by decide +kernel
theorem rf4_1 : rf 4 1 = some 7 := by decide +kernel
theorem rf4_2 : rf 4 2 = none := by decide +kernel
theorem ly5 : lay 5 = (1, 1, 39) := by decide +kernel
theorem ly6 : lay 6 = (1, 1, 23) := by decide +kernel
theorem ly7 : lay 7 = (1, 1, 35) := by decide +kernel
theorem ly8 : lay 8 = (0, 4, 15) := by decide +kernel
theorem rf8_0 : rf 8 0 = none := by decide +kernel
theorem rf8_1 : rf 8 1 = none := by decide +kernel
theorem rf8_2 : rf 8 2 = none := by decide +kernel
theorem rf8_3 : rf 8 3 = none := by decide +kernel
theorem rf8_4 : rf 8 4 = none := by decide +kernel
theorem rf8_5 : rf 8 5 = some 9 := by decide +kernel
theorem rf8_6 : rf 8 6 = some 10 := by decide +kernel
theorem rf8_7 : rf 8 7 = some 11 := by decide +kernel
theorem rf8_8 : rf 8 8 = some 12 := by decide +kernel
theorem rf8_9 : rf 8 9 = some 13 := by decide +kernel
theorem rf8_10 : rf 8 10 = some 14 := by decide +kernel
theorem rf8_11 : rf 8 11 = some 15 := by decide +kernel
theorem rf8_12 : rf 8 12 = some 16 := by decide +kernel
theorem rf8_13 : rf 8 13 = some 17 := by decide +kernel
theorem rf8_14 : rf 8 14 = some 18 := by decide +kernel
theorem ly9 : lay 9 = (1, 0, 8) := by decide +kernel
theorem ly10 : lay 10 = (1, 0, 8) := by decide +kernel
theorem ly11 : lay 11 = (1, 0, 8) := by decide +kernel
theorem ly12 : lay 12 = (1, 0, 8) := by decide +kernel
theorem ly13 : lay 13 = (1, 0, 8) := by decide +kernel
theorem ly14 : lay 14 = (1, 0, 8) := by decide +kernel
theorem ly15 : lay 15 = (1, 0, 6) := by decide +kernel
theorem ly16 : lay 16 = (1, 0, 6) := by decide +kernel
theorem ly17 : lay 17 = (1, 0, 6) := by decide +kernel
theorem ly18 : lay 18 = (1, 0, 6) := by decide +kernel
theorem ly19 : lay 19 = (0, 4, 15) := by decide +kernel
theorem rf19_0 : rf 19 0 = none := by decide +kernel
theorem rf19_1 : rf 19 1 = none := by decide +kernel
theorem rf19_2 : rf 19 2 = none := by decide +kernel
theorem rf19_3 : rf 19 3 = none := by decide +kernel
theorem rf19_4 : rf 19 4 = none := by decide +kernel
theorem rf19_5 : rf 19 5 = some 20 := by decide +kernel
theorem rf19_6 : rf 19 6 = some 21 := by decide +kernel
theorem rf19_7 : rf 19 7 = some 22 := by decide +kernel
theorem rf19_8 : rf 19 8 = some 23 := by decide +kernel
theorem rf19_9 : rf 19 9 = some 24 := by decide +kernel
theorem rf19_10 : rf 19 10 = some 25 := by decide +kernel
theorem rf19_11 : rf 19 11 = some 26 := by decide +kernel
theorem rf19_12 : rf 19 12 = some 27 := by decide +kernel
theorem rf19_13 : rf 19 13 = some 28 := by decide +kernel
theorem rf19_14 : rf 19 14 = some 29 := by decide +kernel
theorem ly20 : lay 20 = (1, 0, 8) := by decide +kernel
theorem ly21 : lay 21 = (1, 0, 8) := by decide +kernel
theorem ly22 : lay 22 = (1, 0, 8) := by decide +kernel
theorem ly23 : lay 23 = (1, 0, 8) := by decide +kernel
theorem ly24 : lay 24 = (1, 0, 8) := by decide +kernel
theorem ly25 : lay 25 = (1, 0, 8) := by decide +kernel
theorem ly26 : lay 26 = (1, 0, 6) := by decide +kernel
theorem ly27 : lay 27 = (1, 0, 6) := by decide +kernel
theorem ly28 : lay 28 = (1, 0, 6) := by decide +kernel
theorem ly29 : lay 29 = (1, 0, 6) := by decide +kernel
theorem ly30 : lay 30 = (0, 0, 15) := by decide +kernel
theorem rf30_0 : rf 30 0 = some 8 := by decide +kernel
theorem rf30_1 : rf 30 1 = some 31 := by decide +kernel
theorem rf30_2 : rf 30 2 = some 32 := by decide +kernel
theorem rf30_3 : rf 30 3 = some 33 := by decide +kernel
theorem rf30_4 : rf 30 4 = some 34 := by decide +kernel
theorem rf30_5 : rf 30 5 = some 35 := by decide +kernel
theorem rf30_6 : rf 30 6 = some 36 := by decide +kernel
theorem rf30_7 : rf 30 7 = some 37 := by decide +kernel
theorem rf30_8 : rf 30 8 = some 38 := by decide +kernel
theorem rf30_9 : rf 30 9 = some 39 := by decide +kernel
theorem rf30_10 : rf 30 10 = some 40 := by decide +kernel
theorem rf30_11 : rf 30 11 = some 41 := by decide +kernel
theorem rf30_12 : rf 30 12 = some 42 := by decide +kernel
theorem rf30_13 : rf 30 13 = some 43 := by decide +kernel
theorem rf30_14 : rf 30 14 = none := by decide +kernel
theorem ly31 : lay 31 = (1, 0, 8) := by decide +kernel
theorem ly32 : lay 32 = (1, 0, 8) := by decide +kernel
theorem ly33 : lay 33 = (1, 0, 8) := by decide +kernel
theorem ly34 : lay 34 = (1, 0, 8) := by decide +kernel
theorem ly35 : lay 35 = (1, 0, 8) := by decide +kernel
theorem ly36 : lay 36 = (1, 0, 8) := by decide +kernel
theorem ly37 : lay 37 = (1, 0, 6) := by decide +kernel
theorem ly38 : lay 38 = (1, 0, 6) := by decide +kernel
theorem ly39 : lay 39 = (1, 0, 6) := by decide +kernel
theorem ly40 : lay 40 = (1, 0, 240) := by decide +kernel
theorem ly41 : lay 41 = (1, 0, 240) := by decide +kernel
theorem ly42 : lay 42 = (1, 0, 240) := by decide +kernel
theorem ly43 : lay 43 = (1, 0, 240) := by decide +kernel
theorem ly44 : lay 44 = (0, 0, 15) := by decide +kernel
theorem rf44_0 : rf 44 0 = some 19 := by decide +kernel
theorem rf44_1 : rf 44 1 = some 45 := by decide +kernel
theorem rf44_2 : rf 44 2 = some 46 := by decide +kernel
theorem rf44_3 : rf 44 3 = some 47 := by decide +kernel
theorem rf44_4 : rf 44 4 = some 48 := by decide +kernel
theorem rf44_5 : rf 44 5 = some 49 := by decide +kernel
theorem rf44_6 : rf 44 6 = some 50 := by decide +kernel
theorem rf44_7 : rf 44 7 = some 51 := by decide +kernel
theorem rf44_8 : rf 44 8 = some 52 := by decide +kernel
theorem rf44_9 : rf 44 9 = some 53 := by decide +kernel
theorem rf44_10 : rf 44 10 = some 54 := by decide +kernel
theorem rf44_11 : rf 44 11 = some 55 := by decide +kernel
theorem rf44_12 : rf 44 12 = some 56 := by decide +kernel
theorem rf44_13 : rf 44 13 = some 57 := by decide +kernel
theorem rf44_14 : rf 44 14 = none := by decide +kernel
theorem ly45 : lay 45 = (1, 0, 8) := by decide +kernel
theorem ly46 : lay 46 = (1, 0, 8) := by decide +kernel
theorem ly47 : lay 47 = (1, 0, 8) := by decide +kernel
theorem ly48 : lay 48 = (1, 0, 8) := by decide +kernel
theorem ly49 : lay 49 = (1, 0, 8) := by decide +kernel
theorem ly50 : lay 50 = (1, 0, 8) := by decide +kernel
theorem ly51 : lay 51 = (1, 0, 6) := by decide +kernel
theorem ly52 : lay 52 = (1, 0, 6) := by decide +kernel
theorem ly53 : lay 53 = (1, 0, 6) := by decide +kernel
theorem ly54 : lay 54 = (1, 0, 240) := by decide +kernel
theorem ly55 : lay 55 = (1, 0, 240) := by decide +kernel
theorem ly56 : lay 56 = (1, 0, 240) := by decide +kernel
theorem ly57 : lay 57 = (1, 0, 240) := by decide +kernel
theorem ly58 : lay 58 = (1, 0, 512) := by decide +kernel
theorem ly59 : lay 59 = (1, 0, 48) := by decide +kernel
theorem ly60 : lay 60 = (0, 2, 4) := by decide +kernel
theorem rf60_0 : rf 60 0 = some 61 := by decide +kernel
theorem rf60_1 : rf 60 1 = some 62 := by decide +kernel
theorem rf60_2 : rf 60 2 = some 63 := by decide +kernel
theorem rf60_3 : rf 60 3 = none := by decide +kernel
theorem ly61 : lay 61 = (1, 0, 8) := by decide +kernel
theorem ly62 : lay 62 = (1, 0, 8) := by decide +kernel
theorem ly63 : lay 63 = (1, 0, 8) := by decide +kernel
theorem ly64 : lay 64 = (2, 4, 4) := by decide +kernel
theorem rf64_0 : rf 64 0 = some 65 := by decide +kernel
theorem rf64_1 : rf 64 1 = some 66 := by decide +kernel
theorem rf64_2 : rf 64 2 = some 67 := by decide +kernel
theorem rf64_3 : rf 64 3 = some 68 := by decide +kernel
theorem ly65 : lay 65 = (0, 1, 3) := by decide +kernel
theorem rf65_0 : rf 65 0 = some 69 := by decide +kernel
theorem rf65_1 : rf 65 1 = none := by decide +kernel
theorem rf65_2 : rf 65 2 = none := by decide +kernel
theorem ly66 : lay 66 = (0, 1, 3) := by decide +kernel
theorem rf66_0 : rf 66 0 = some 70 := by decide +kernel
theorem rf66_1 : rf 66 1 = none := by decide +kernel
theorem rf66_2 : rf 66 2 = none := by decide +kernel
theorem ly67 : lay 67 = (0, 1, 3) := by decide +kernel
theorem rf67_0 : rf 67 0 = some 71 := by decide +kernel
theorem rf67_1 : rf 67 1 = none := by decide +kernel
theorem rf67_2 : rf 67 2 = none := by decide +kernel
theorem ly68 : lay 68 = (0, 1, 3) := by decide +kernel
theorem rf68_0 : rf 68 0 = some 72 := by decide +kernel
theorem rf68_1 : rf 68 1 = none := by decide +kernel
theorem rf68_2 : rf 68 2 = none := by decide +kernel
theorem ly69 : lay 69 = (1, 0, 60) := by decide +kernel
theorem ly70 : lay 70 = (1, 0, 60) := by decide +kernel
theorem ly71 : lay 71 = (1, 0, 60) := by decide +kernel
theorem ly72 : lay 72 = (1, 0, 60) := by decide +kernel
theorem ly73 : lay 73 = (0, 6, 38) := by decide +kernel
theorem rf73_0 : rf 73 0 = some 74 := by decide +kernel
theorem rf73_1 : rf 73 1 = some 75 := by decide +kernel
theorem rf73_2 : rf 73 2 = none := by decide +kernel
theorem rf73_3 : rf 73 3 = some 76 := by decide +kernel
theorem rf73_4 : rf 73 4 = some 77 := by decide +kernel
theorem rf73_5 : rf 73 5 = some 78 := by decide +kernel
theorem rf73_6 : rf 73 6 = some 79 := by decide +kernel
theorem rf73_7 : rf 73 7 = none := by decide +kernel
theorem rf73_8 : rf 73 8 = some 80 := by decide +kernel
theorem rf73_9 : rf 73 9 = some 81 := by decide +kernel
theorem rf73_10 : rf 73 10 = none := by decide +kernel
theorem rf73_11 : rf 73 11 = some 82 := by decide +kernel
theorem rf73_12 : rf 73 12 = some 83 := by decide +kernel
theorem rf73_13 : rf 73 13 = some 84 := by decide +kernel
theorem rf73_14 : rf 73 14 = some 85 := by decide +kernel
theorem rf73_15 : rf 73 15 = none := by decide +kernel
theorem rf73_16 : rf 73 16 = none := by decide +kernel
theorem rf73_17 : rf 73 17 = some 86 := by decide +kernel
theorem rf73_18 : rf 73 18 = some 87 := by decide +kernel
theorem rf73_19 : rf 73 19 = some 88 := by decide +kernel
theorem rf73_20 : rf 73 20 = some 89 := by decide +kernel
theorem rf73_21 : rf 73 21 = some 90 := by decide +kernel
theorem rf73_22 : rf 73 22 = some 91 := by decide +kernel
theorem rf73_23 : rf 73 23 = some 92 := by decide +kernel
theorem rf73_24 : rf 73 24 = none := by decide +kernel
theorem rf73_25 : rf 73 25 = some 93 := by decide +kernel
theorem rf73_26 : rf 73 26 = some 94 := by decide +kernel
theorem rf73_27 : rf 73 27 = none := by decide +kernel
theorem rf73_28 : rf 73 28 = some 95 := by decide +kernel
theorem rf73_29 : rf 73 29 = some 96 := by decide +kernel
theorem rf73_30 : rf 73 30 = some 97 := by decide +kernel
theorem rf73_31 : rf 73 31 = some 98 := by decide +kernel
theorem rf73_32 : rf 73 32 = some 99 := by decide +kernel
theorem rf73_33 : rf 73 33 = some 100 := by decide +kernel
theorem rf73_34 : rf 73 34 = some 101 := by decide +kernel
theorem rf73_35 : rf 73 35 = some 102 := by decide +kernel
theorem rf73_36 : rf 73 36 = some 103 := by decide +kernel
theorem rf73_37 : rf 73 37 = none := by decide +kernel
theorem ly74 : lay 74 = (1, 0, 3) := by decide +kernel
theorem ly75 : lay 75 = (1, 0, 117) := by decide +kernel
theorem ly76 : lay 76 = (1, 0, 9) := by decide +kernel
theorem ly77 : lay 77 = (1, 0, 9) := by decide +kernel
theorem ly78 : lay 78 = (1, 0, 9) := by decide +kernel
theorem ly79 : lay 79 = (1, 0, 9) := by decide +kernel
theorem ly80 : lay 80 = (1, 0, 9) := by decide +kernel
theorem ly81 : lay 81 = (1, 0, 9) := by decide +kernel
theorem ly82 : lay 82 = (1, 0, 7) := by decide +kernel
theorem ly83 : lay 83 = (1, 0, 7) := by decide +kernel
theorem ly84 : lay 84 = (1, 0, 7) := by decide +kernel
theorem ly85 : lay 85 = (1, 0, 7) := by decide +kernel
theorem ly86 : lay 86 = (1, 0, 8) := by decide +kernel
theorem ly87 : lay 87 = (1, 0, 8) := by decide +kernel
theorem ly88 : lay 88 = (1, 0, 8) := by decide +kernel
theorem ly89 : lay 89 = (1, 0, 8) := by decide +kernel
theorem ly90 : lay 90 = (1, 0, 6) := by decide +kernel
theorem ly91 : lay 91 = (1, 0, 6) := by decide +kernel
theorem ly92 : lay 92 = (1, 0, 6) := by decide +kernel
theorem ly93 : lay 93 = (1, 0, 8) := by decide +kernel
theorem ly94 : lay 94 = (1, 0, 2) := by decide +kernel
theorem ly95 : lay 95 = (1, 0, 8) := by decide +kernel
theorem ly96 : lay 96 = (1, 0, 8) := by decide +kernel
theorem ly97 : lay 97 = (1, 0, 8) := by decide +kernel
theorem ly98 : lay 98 = (1, 0, 48) := by decide +kernel
theorem ly99 : lay 99 = (1, 2, 4) := by decide +kernel
theorem ly100 : lay 100 = (1, 0, 4) := by decide +kernel
theorem ly101 : lay 101 = (1, 0, 4) := by decide +kernel
theorem ly102 : lay 102 = (1, 0, 240) := by decide +kernel
theorem ly103 : lay 103 = (1, 0, 60) := by decide +kernel
theorem ly104 : lay 104 = (6, 0, 2) := by decide +kernel
theorem ly105 : lay 105 = (7, 0, 4) := by decide +kernel
theorem ly106 : lay 106 = (6, 1, 2) := by decide +kernel
theorem ly107 : lay 107 = (7, 1, 2) := by decide +kernel
theorem ly108 : lay 108 = (6, 2, 2) := by decide +kernel
theorem ly109 : lay 109 = (7, 2, 5) := by decide +kernel
theorem ly110 : lay 110 = (6, 3, 2) := by decide +kernel
theorem ly111 : lay 111 = (7, 3, 4) := by decide +kernel
theorem ly112 : lay 112 = (8, 0, 0) := by decide +kernel
theorem fl4_9 : fld 4 9 = some (4, 0, 111) := by decide +kernel
theorem fl0_76 : fld 0 76 = some (4, 0, 112) := by decide +kernel
theorem fl5_257 : fld 5 257 = some (4, 0, 113) := by decide +kernel
theorem fl4_15 : fld 4 15 = some (4, 1, 114) := by decide +kernel
theorem fl2_35 : fld 2 35 = some (4, 1, 115) := by decide +kernel
theorem fl0_89 : fld 0 89 = some (4, 1, 116) := by decide +kernel
theorem fl5_181 : fld 5 181 = some (4, 1, 117) := by decide +kernel
theorem fl4_18 : fld 4 18 = some (4, 2, 118) := by decide +kernel
theorem fl0_65 : fld 0 65 = some (4, 2, 119) := by decide +kernel
theorem fl5_248 : fld 5 248 = some (4, 2, 120) := by decide +kernel
theorem fl4_21 : fld 4 21 = some (4, 3, 121) := by decide +kernel
theorem fl0_136 : fld 0 136 = some (4, 3, 122) := by decide +kernel
theorem fl5_134 : fld 5 134 = some (4, 3, 123) := by decide +kernel
theorem fl4_24 : fld 4 24 = some (4, 4, 124) := by decide +kernel
theorem fl5_339 : fld 5 339 = some (4, 4, 125) := by decide +kernel
theorem fl4_27 : fld 4 27 = some (4, 5, 126) := by decide +kernel
theorem fl0_95 : fld 0 95 = some (4, 5, 127) := by decide +kernel
theorem fl5_96 : fld 5 96 = some (4, 5, 128) := by decide +kernel
theorem fl4_31 : fld 4 31 = some (4, 6, 129) := by decide +kernel
theorem fl5_101 : fld 5 101 = some (4, 6, 130) := by decide +kernel
theorem fl4_34 : fld 4 34 = some (4, 7, 131) := by decide +kernel
theorem fl0_98 : fld 0 98 = some (4, 7, 132) := by decide +kernel
theorem fl5_104 : fld 5 104 = some (4, 7, 133) := by decide +kernel
theorem fl4_37 : fld 4 37 = some (4, 8, 134) := by decide +kernel
theorem fl0_101 : fld 0 101 = some (4, 8, 135) := by decide +kernel
theorem fl5_107 : fld 5 107 = some (4, 8, 136) := by decide +kernel
theorem fl4_40 : fld 4 40 = some (4, 9, 137) := by decide +kernel
theorem fl5_113 : fld 5 113 = some (4, 9, 138) := by decide +kernel
theorem fl4_43 : fld 4 43 = some (4, 10, 139) := by decide +kernel
theorem fl0_92 : fld 0 92 = some (4, 10, 140) := by decide +kernel
theorem fl5_116 : fld 5 116 = some (4, 10, 141) := by decide +kernel
theorem fl4_46 : fld 4 46 = some (4, 11, 142) := by decide +kernel
theorem fl5_122 : fld 5 122 = some (4, 11, 143) := by decide +kernel
theorem fl4_49 : fld 4 49 = some (4, 12, 144) := by decide +kernel
theorem fl0_108 : fld 0 108 = some (4, 12, 145) := by decide +kernel
theorem fl5_125 : fld 5 125 = some (4, 12, 146) := by decide +kernel
theorem fl4_52 : fld 4 52 = some (4, 13, 147) := by decide +kernel
theorem fl0_133 : fld 0 133 = some (4, 13, 148) := by decide +kernel
theorem fl5_128 : fld 5 128 = some (4, 13, 149) := by decide +kernel
theorem fl4_55 : fld 4 55 = some (4, 14, 150) := by decide +kernel
theorem fl0_114 : fld 0 114 = some (4, 14, 151) := by decide +kernel
theorem fl5_131 : fld 5 131 = some (4, 14, 152) := by decide +kernel
theorem fl0_12 : fld 0 12 = some (0, 0, 185) := by decide +kernel
theorem fl5_25 : fld 5 25 = some (0, 0, 186) := by decide +kernel
theorem fl2_29 : fld 2 29 = some (0, 0, 187) := by decide +kernel
theorem fl0_18 : fld 0 18 = some (0, 1, 188) := by decide +kernel
theorem fl0_22 : fld 0 22 = some (0, 2, 189) := by decide +kernel
theorem fl0_25 : fld 0 25 = some (0, 3, 190) := by decide +kernel
theorem fl5_201 : fld 5 201 = some (0, 3, 191) := by decide +kernel
theorem fl0_28 : fld 0 28 = some (0, 4, 192) := by decide +kernel
theorem fl5_204 : fld 5 204 = some (0, 4, 193) := by decide +kernel
theorem fl0_31 : fld 0 31 = some (0, 5, 194) := by decide +kernel
theorem fl5_198 : fld 5 198 = some (0, 5, 195) := by decide +kernel
theorem fl0_34 : fld 0 34 = some (0, 6, 196) := by decide +kernel
theorem fl0_37 : fld 0 37 = some (0, 7, 197) := by decide +kernel
theorem fl5_163 : fld 5 163 = some (0, 7, 198) := by decide +kernel
theorem fl0_40 : fld 0 40 = some (0, 8, 199) := by decide +kernel
theorem fl5_166 : fld 5 166 = some (0, 8, 200) := by decide +kernel
theorem fl0_43 : fld 0 43 = some (0, 9, 201) := by decide +kernel
theorem fl5_169 : fld 5 169 = some (0, 9, 202) := by decide +kernel
theorem fl0_46 : fld 0 46 = some (0, 10, 203) := by decide +kernel
theorem fl5_147 : fld 5 147 = some (0, 10, 204) := by decide +kernel
theorem fl0_49 : fld 0 49 = some (0, 11, 205) := by decide +kernel
theorem fl5_150 : fld 5 150 = some (0, 11, 206) := by decide +kernel
theorem fl0_52 : fld 0 52 = some (0, 12, 207) := by decide +kernel
theorem fl5_153 : fld 5 153 = some (0, 12, 208) := by decide +kernel
theorem fl0_55 : fld 0 55 = some (0, 13, 209) := by decide +kernel
theorem fl2_40 : fld 2 40 = some (0, 13, 210) := by decide +kernel
theorem fl5_156 : fld 5 156 = some (0, 13, 211) := by decide +kernel
theorem fl0_58 : fld 0 58 = some (0, 14, 212) := by decide +kernel
theorem fl5_184 : fld 5 184 = some (0, 14, 213) := by decide +kernel
theorem fl2_9 : fld 2 9 = some (2, 0, 251) := by decide +kernel
theorem fl2_15 : fld 2 15 = some (2, 1, 252) := by decide +kernel
theorem fl2_18 : fld 2 18 = some (2, 2, 253) := by decide +kernel
theorem fl2_21 : fld 2 21 = some (2, 3, 254) := by decide +kernel
theorem fl5_223 : fld 5 223 = some (2, 3, 255) := by decide +kernel
theorem fl3_15 : fld 3 15 = some (3, 0, 273) := by decide +kernel
theorem fl3_19 : fld 3 19 = some (3, 1, 274) := by decide +kernel
theorem fl5_81 : fld 5 81 = some (3, 1, 275) := by decide +kernel
theorem fl3_9 : fld 3 9 = some (3, 2, 276) := by decide +kernel
theorem fl5_78 : fld 5 78 = some (3, 2, 277) := by decide +kernel
theorem fl1_9 : fld 1 9 = some (1, 0, 294) := by decide +kernel
theorem fl5_231 : fld 5 231 = some (1, 0, 295) := by decide +kernel
theorem fl1_15 : fld 1 15 = some (1, 1, 296) := by decide +kernel
theorem fl5_224 : fld 5 224 = some (1, 1, 297) := by decide +kernel
theorem fl1_19 : fld 1 19 = some (1, 2, 298) := by decide +kernel
theorem fl5_230 : fld 5 230 = some (1, 2, 299) := by decide +kernel
theorem fl5_11 : fld 5 11 = some (5, 0, 307) := by decide +kernel
theorem fl5_18 : fld 5 18 = some (5, 1, 308) := by decide +kernel
theorem fl5_22 : fld 5 22 = some (5, 2, 309) := by decide +kernel
theorem fl5_29 : fld 5 29 = some (5, 3, 310) := by decide +kernel
theorem fl5_30 : fld 5 30 = some (5, 4, 311) := by decide +kernel
theorem fl5_33 : fld 5 33 = some (5, 5, 312) := by decide +kernel
theorem fl5_37 : fld 5 37 = some (5, 6, 313) := by decide +kernel
theorem fl5_43 : fld 5 43 = some (5, 7, 314) := by decide +kernel
theorem fl5_49 : fld 5 49 = some (5, 8, 315) := by decide +kernel
theorem fl5_53 : fld 5 53 = some (5, 9, 316) := by decide +kernel
theorem fl5_57 : fld 5 57 = some (5, 10, 317) := by decide +kernel
theorem fl5_60 : fld 5 60 = some (5, 11, 318) := by decide +kernel
theorem fl6_7 : fld 6 7 = some (6, 0, 854) := by decide +kernel
theorem fl6_13 : fld 6 13 = some (6, 1, 855) := by decide +kernel
theorem fl6_123 : fld 6 123 = some (6, 2, 856) := by decide +kernel
theorem fl6_16 : fld 6 16 = some (6, 3, 857) := by decide +kernel
theorem fl6_19 : fld 6 19 = some (6, 4, 858) := by decide +kernel
theorem fl6_22 : fld 6 22 = some (6, 5, 859) := by decide +kernel
theorem fl6_25 : fld 6 25 = some (6, 6, 860) := by decide +kernel
theorem fl6_126 : fld 6 126 = some (6, 7, 861) := by decide +kernel
theorem fl6_28 : fld 6 28 = some (6, 8, 862) := by decide +kernel
theorem fl6_31 : fld 6 31 = some (6, 9, 863) := by decide +kernel
theorem fl6_129 : fld 6 129 = some (6, 10, 864) := by decide +kernel
theorem fl6_34 : fld 6 34 = some (6, 11, 865) := by decide +kernel
theorem fl6_37 : fld 6 37 = some (6, 12, 866) := by decide +kernel
theorem fl6_40 : fld 6 40 = some (6, 13, 867) := by decide +kernel
theorem fl6_43 : fld 6 43 = some (6, 14, 868) := by decide +kernel
theorem fl6_101 : fld 6 101 = some (6, 15, 869) := by decide +kernel
theorem fl6_180 : fld 6 180 = some (6, 16, 870) := by decide +kernel
theorem fl6_46 : fld 6 46 = some (6, 17, 871) := by decide +kernel
theorem fl6_49 : fld 6 49 = some (6, 18, 872) := by decide +kernel
theorem fl6_52 : fld 6 52 = some (6, 19, 873) := by decide +kernel
theorem fl6_55 : fld 6 55 = some (6, 20, 874) := by decide +kernel
theorem fl6_58 : fld 6 58 = some (6, 21, 875) := by decide +kernel
theorem fl6_61 : fld 6 61 = some (6, 22, 876) := by decide +kernel
theorem fl6_64 : fld 6 64 = some (6, 23, 877) := by decide +kernel
theorem fl6_170 : fld 6 170 = some (6, 24, 878) := by decide +kernel
theorem fl6_67 : fld 6 67 = some (6, 25, 879) := by decide +kernel
theorem fl6_70 : fld 6 70 = some (6, 26, 880) := by decide +kernel
theorem fl6_249 : fld 6 249 = some (6, 27, 881) := by decide +kernel
theorem fl6_73 : fld 6 73 = some (6, 28, 882) := by decide +kernel
theorem fl6_76 : fld 6 76 = some (6, 29, 883) := by decide +kernel
theorem fl6_79 : fld 6 79 = some (6, 30, 884) := by decide +kernel
theorem fl6_82 : fld 6 82 = some (6, 31, 885) := by decide +kernel
theorem fl6_85 : fld 6 85 = some (6, 32, 886) := by decide +kernel
theorem fl6_89 : fld 6 89 = some (6, 33, 887) := by decide +kernel
theorem fl6_92 : fld 6 92 = some (6, 34, 888) := by decide +kernel
theorem fl6_95 : fld 6 95 = some (6, 35, 889) := by decide +kernel
theorem fl6_98 : fld 6 98 = some (6, 36, 890) := by decide +kernel
theorem fl6_293 : fld 6 293 = some (6, 37, 891) := by decide +kernel
theorem fl7_9 : fld 7 9 = some (7, 0, 1333) := by decide +kernel
theorem fl7_15 : fld 7 15 = some (7, 1, 1334) := by decide +kernel
theorem ca15_13 : cal 15 13 = some (1, 30, 344) := by decide +kernel
theorem ca5_74 : cal 5 74 = some (0, 31, 348) := by decide +kernel
theorem ca5_187 : cal 5 187 = some (0, 32, 351) := by decide +kernel
theorem ca5_85 : cal 5 85 = some (1, 33, 354) := by decide +kernel
theorem ca5_329 : cal 5 329 = some (1, 23, 358) := by decide +kernel
theorem ca4_58 : cal 4 58 = some (1, 16, 362) := by decide +kernel
theorem ca3_40 : cal 3 40 = some (1, 17, 366) := by decide +kernel
theorem ca3_23 : cal 3 23 = some (1, 18, 370) := by decide +kernel
theorem ca3_27 : cal 3 27 = some (1, 178, 374) := by decide +kernel
theorem ca7_335 : cal 7 335 = some (1, 179, 378) := by decide +kernel
theorem ca3_32 : cal 3 32 = some (1, 180, 384) := by decide +kernel
theorem ca7_492 : cal 7 492 = some (1, 181, 388) := by decide +kernel
theorem ca7_495 : cal 7 495 = some (0, 185, 392) := by decide +kernel
theorem ca8_9 : cal 8 9 = some (0, 182, 395) := by decide +kernel
theorem ca7_1059 : cal 7 1059 = some (0, 189, 400) := by decide +kernel
theorem ca9_414 : cal 9 414 = some (0, 182, 412) := by decide +kernel
theorem ca3_36 : cal 3 36 = some (0, 19, 422) := by decide +kernel
theorem ca3_47 : cal 3 47 = some (0, 20, 425) := by decide +kernel
theorem ca3_53 : cal 3 53 = some (1, 183, 429) := by decide +kernel
theorem ca7_633 : cal 7 633 = some (1, 184, 433) := by decide +kernel
theorem ca7_505 : cal 7 505 = some (1, 178, 437) := by decide +kernel
theorem ca7_637 : cal 7 637 = some (0, 186, 438) := by decide +kernel
theorem ca8_88 : cal 8 88 = some (0, 187, 441) := by decide +kernel
theorem ca8_92 : cal 8 92 = some (5, 0, 444) := by decide +kernel
theorem ca8_38 : cal 8 38 = some (4, 0, 447) := by decide +kernel
theorem ca8_95 : cal 8 95 = some (0, 188, 450) := by decide +kernel
theorem ca9_224 : cal 9 224 = some (5, 0, 456) := by decide +kernel
theorem ca9_183 : cal 9 183 = some (4, 0, 457) := by decide +kernel
theorem ca4_64 : cal 4 64 = some (4, 0, 488) := by decide +kernel
theorem ca4_70 : cal 4 70 = some (1, 21, 489) := by decide +kernel
theorem ca4_74 : cal 4 74 = some (0, 20, 493) := by decide +kernel
theorem ca4_78 : cal 4 78 = some (1, 22, 494) := by decide +kernel
theorem ca3_43 : cal 3 43 = some (1, 21, 498) := by decide +kernel
theorem ca5_333 : cal 5 333 = some (1, 24, 499) := by decide +kernel
theorem ca5_336 : cal 5 336 = some (1, 25, 503) := by decide +kernel
theorem ca5_137 : cal 5 137 = some (1, 34, 507) := by decide +kernel
theorem ca15_18 : cal 15 18 = some (1, 35, 511) := by decide +kernel
theorem ca15_23 : cal 15 23 = some (1, 36, 515) := by decide +kernel
theorem ca15_27 : cal 15 27 = some (1, 37, 519) := by decide +kernel
theorem ca5_89 : cal 5 89 = some (1, 17, 523) := by decide +kernel
theorem ca15_31 : cal 15 31 = some (1, 38, 524) := by decide +kernel
theorem ca5_93 : cal 5 93 = some (1, 39, 528) := by decide +kernel
theorem ca15_35 : cal 15 35 = some (1, 40, 532) := by decide +kernel
theorem ca5_110 : cal 5 110 = some (1, 41, 536) := by decide +kernel
theorem ca15_39 : cal 15 39 = some (1, 42, 540) := by decide +kernel
theorem ca5_119 : cal 5 119 = some (1, 43, 544) := by decide +kernel
theorem ca15_43 : cal 15 43 = some (1, 44, 548) := by decide +kernel
theorem ca15_47 : cal 15 47 = some (1, 45, 552) := by decide +kernel
theorem ca5_140 : cal 5 140 = some (0, 46, 556) := by decide +kernel
theorem ca5_143 : cal 5 143 = some (1, 47, 559) := by decide +kernel
theorem ca5_195 : cal 5 195 = some (1, 0, 563) := by decide +kernel
theorem ca0_62 : cal 0 62 = some (1, 1, 567) := by decide +kernel
theorem ca0_104 : cal 0 104 = some (1, 2, 571) := by decide +kernel
theorem ca0_68 : cal 0 68 = some (1, 26, 575) := by decide +kernel
theorem ca0_72 : cal 0 72 = some (1, 3, 579) := by decide +kernel
theorem ca0_111 : cal 0 111 = some (1, 4, 583) := by decide +kernel
theorem ca0_130 : cal 0 130 = some (0, 5, 587) := by decide +kernel
theorem ca0_117 : cal 0 117 = some (1, 27, 590) := by decide +kernel
theorem ca0_121 : cal 0 121 = some (1, 6, 594) := by decide +kernel
theorem ca0_139 : cal 0 139 = some (4, 0, 598) := by decide +kernel
theorem ca0_125 : cal 0 125 = some (0, 190, 599) := by decide +kernel
theorem ca0_79 : cal 0 79 = some (1, 7, 603) := by decide +kernel
theorem ca0_145 : cal 0 145 = some (1, 28, 607) := by decide +kernel
theorem ca0_83 : cal 0 83 = some (3, 0, 611) := by decide +kernel
theorem ca15_51 : cal 15 51 = some (1, 48, 614) := by decide +kernel
theorem ca15_55 : cal 15 55 = some (1, 49, 618) := by decide +kernel
theorem ca15_59 : cal 15 59 = some (1, 50, 622) := by decide +kernel
theorem ca5_159 : cal 5 159 = some (1, 8, 626) := by decide +kernel
theorem ca15_64 : cal 15 64 = some (1, 51, 630) := by decide +kernel
theorem ca5_172 : cal 5 172 = some (1, 9, 634) := by decide +kernel
theorem ca5_176 : cal 5 176 = some (0, 191, 638) := by decide +kernel
theorem ca15_68 : cal 15 68 = some (1, 52, 644) := by decide +kernel
theorem ca15_72 : cal 15 72 = some (1, 53, 648) := by decide +kernel
theorem ca15_77 : cal 15 77 = some (1, 54, 652) := by decide +kernel
theorem ca5_191 : cal 5 191 = some (1, 29, 656) := by decide +kernel
theorem ca4_81 : cal 4 81 = some (3, 0, 660) := by decide +kernel
theorem ca15_81 : cal 15 81 = some (1, 55, 661) := by decide +kernel
theorem ca15_85 : cal 15 85 = some (1, 56, 665) := by decide +kernel
theorem ca15_89 : cal 15 89 = some (1, 57, 669) := by decide +kernel
theorem ca5_207 : cal 5 207 = some (1, 58, 673) := by decide +kernel
theorem ca5_278 : cal 5 278 = some (3, 0, 677) := by decide +kernel
theorem ca5_210 : cal 5 210 = some (1, 59, 678) := by decide +kernel
theorem ca5_342 : cal 5 342 = some (1, 60, 682) := by decide +kernel
theorem ca5_213 : cal 5 213 = some (0, 192, 686) := by decide +kernel
theorem ca5_216 : cal 5 216 = some (0, 190, 689) := by decide +kernel
theorem ca15_93 : cal 15 93 = some (1, 61, 690) := by decide +kernel
theorem ca5_219 : cal 5 219 = some (1, 14, 694) := by decide +kernel
theorem ca15_97 : cal 15 97 = some (1, 62, 699) := by decide +kernel
theorem ca15_101 : cal 15 101 = some (1, 63, 703) := by decide +kernel
theorem ca5_227 : cal 5 227 = some (1, 64, 707) := by decide +kernel
theorem ca15_105 : cal 15 105 = some (1, 65, 711) := by decide +kernel
theorem ca5_234 : cal 5 234 = some (1, 66, 715) := by decide +kernel
theorem ca5_237 : cal 5 237 = some (1, 15, 719) := by decide +kernel
theorem ca15_109 : cal 15 109 = some (1, 67, 723) := by decide +kernel
theorem ca15_113 : cal 15 113 = some (1, 68, 727) := by decide +kernel
theorem ca5_241 : cal 5 241 = some (1, 69, 731) := by decide +kernel
theorem ca5_345 : cal 5 345 = some (5, 0, 735) := by decide +kernel
theorem ca15_117 : cal 15 117 = some (1, 70, 736) := by decide +kernel
theorem ca5_251 : cal 5 251 = some (1, 71, 741) := by decide +kernel
theorem ca15_122 : cal 15 122 = some (1, 72, 746) := by decide +kernel
theorem ca5_261 : cal 5 261 = some (1, 10, 751) := by decide +kernel
theorem ca0_148 : cal 0 148 = some (0, 191, 755) := by decide +kernel
theorem ca15_126 : cal 15 126 = some (1, 73, 756) := by decide +kernel
theorem ca5_264 : cal 5 264 = some (1, 11, 760) := by decide +kernel
theorem ca15_130 : cal 15 130 = some (1, 74, 764) := by decide +kernel
theorem ca15_134 : cal 15 134 = some (1, 75, 768) := by decide +kernel
theorem ca5_268 : cal 5 268 = some (1, 76, 772) := by decide +kernel
theorem ca5_271 : cal 5 271 = some (1, 12, 776) := by decide +kernel
theorem ca15_139 : cal 15 139 = some (1, 77, 780) := by decide +kernel
theorem ca15_143 : cal 15 143 = some (1, 78, 785) := by decide +kernel
theorem ca5_275 : cal 5 275 = some (1, 13, 789) := by decide +kernel
theorem ca15_148 : cal 15 148 = some (1, 79, 793) := by decide +kernel
theorem ca5_284 : cal 5 284 = some (4, 0, 797) := by decide +kernel
theorem ca15_152 : cal 15 152 = some (1, 80, 798) := by decide +kernel
theorem ca15_156 : cal 15 156 = some (1, 81, 802) := by decide +kernel
theorem ca5_291 : cal 5 291 = some (1, 80, 807) := by decide +kernel
theorem ca5_294 : cal 5 294 = some (0, 82, 808) := by decide +kernel
theorem ca5_298 : cal 5 298 = some (1, 37, 812) := by decide +kernel
theorem ca5_301 : cal 5 301 = some (1, 83, 813) := by decide +kernel
theorem ca5_350 : cal 5 350 = some (1, 38, 817) := by decide +kernel
theorem ca5_353 : cal 5 353 = some (1, 45, 818) := by decide +kernel
theorem ca5_356 : cal 5 356 = some (1, 48, 819) := by decide +kernel
theorem ca5_359 : cal 5 359 = some (1, 49, 820) := by decide +kernel
theorem ca5_305 : cal 5 305 = some (1, 84, 821) := by decide +kernel
theorem ca5_362 : cal 5 362 = some (1, 55, 825) := by decide +kernel
theorem ca5_365 : cal 5 365 = some (1, 57, 826) := by decide +kernel
theorem ca5_368 : cal 5 368 = some (1, 67, 827) := by decide +kernel
theorem ca5_371 : cal 5 371 = some (1, 70, 828) := by decide +kernel
theorem ca5_308 : cal 5 308 = some (1, 85, 829) := by decide +kernel
theorem ca5_375 : cal 5 375 = some (1, 40, 833) := by decide +kernel
theorem ca5_378 : cal 5 378 = some (1, 50, 834) := by decide +kernel
theorem ca5_381 : cal 5 381 = some (1, 54, 835) := by decide +kernel
theorem ca5_326 : cal 5 326 = some (1, 72, 836) := by decide +kernel
theorem ca5_311 : cal 5 311 = some (1, 86, 837) := by decide +kernel
theorem ca5_384 : cal 5 384 = some (1, 42, 841) := by decide +kernel
theorem ca5_387 : cal 5 387 = some (1, 51, 842) := by decide +kernel
theorem ca5_390 : cal 5 390 = some (1, 56, 843) := by decide +kernel
theorem ca5_314 : cal 5 314 = some (1, 52, 844) := by decide +kernel
theorem ca5_317 : cal 5 317 = some (1, 53, 845) := by decide +kernel
theorem ca5_320 : cal 5 320 = some (1, 65, 846) := by decide +kernel
theorem ca5_323 : cal 5 323 = some (1, 68, 847) := by decide +kernel
theorem ca15_17 : cal 15 17 = some (1, 87, 970) := by decide +kernel
theorem ca6_111 : cal 6 111 = some (0, 88, 974) := by decide +kernel
theorem ca6_107 : cal 6 107 = some (0, 89, 977) := by decide +kernel
theorem ca15_22 : cal 15 22 = some (1, 90, 980) := by decide +kernel
theorem ca15_26 : cal 15 26 = some (1, 91, 984) := by decide +kernel
theorem ca15_30 : cal 15 30 = some (1, 92, 988) := by decide +kernel
theorem ca6_149 : cal 6 149 = some (1, 93, 992) := by decide +kernel
theorem ca6_145 : cal 6 145 = some (1, 94, 996) := by decide +kernel
theorem ca6_132 : cal 6 132 = some (1, 95, 1000) := by decide +kernel
theorem ca6_136 : cal 6 136 = some (1, 96, 1004) := by decide +kernel
theorem ca6_115 : cal 6 115 = some (1, 97, 1008) := by decide +kernel
theorem ca6_119 : cal 6 119 = some (1, 98, 1012) := by decide +kernel
theorem ca6_139 : cal 6 139 = some (1, 99, 1016) := by decide +kernel
theorem ca6_142 : cal 6 142 = some (1, 100, 1020) := by decide +kernel
theorem ca15_34 : cal 15 34 = some (1, 101, 1024) := by decide +kernel
theorem ca6_155 : cal 6 155 = some (1, 102, 1028) := by decide +kernel
theorem ca6_152 : cal 6 152 = some (1, 103, 1032) := by decide +kernel
theorem ca6_158 : cal 6 158 = some (1, 104, 1036) := by decide +kernel
theorem ca15_38 : cal 15 38 = some (1, 105, 1040) := by decide +kernel
theorem ca6_161 : cal 6 161 = some (1, 106, 1044) := by decide +kernel
theorem ca15_42 : cal 15 42 = some (1, 107, 1048) := by decide +kernel
theorem ca6_164 : cal 6 164 = some (1, 108, 1052) := by decide +kernel
theorem ca6_167 : cal 6 167 = some (1, 109, 1056) := by decide +kernel
theorem ca15_46 : cal 15 46 = some (1, 110, 1060) := by decide +kernel
theorem ca15_50 : cal 15 50 = some (1, 111, 1064) := by decide +kernel
theorem ca6_199 : cal 6 199 = some (0, 112, 1068) := by decide +kernel
theorem ca6_202 : cal 6 202 = some (1, 113, 1071) := by decide +kernel
theorem ca6_196 : cal 6 196 = some (1, 114, 1075) := by decide +kernel
theorem ca6_193 : cal 6 193 = some (1, 115, 1079) := by decide +kernel
theorem ca6_186 : cal 6 186 = some (1, 116, 1083) := by decide +kernel
theorem ca6_189 : cal 6 189 = some (1, 117, 1087) := by decide +kernel
theorem ca6_173 : cal 6 173 = some (0, 118, 1091) := by decide +kernel
theorem ca6_183 : cal 6 183 = some (1, 119, 1094) := by decide +kernel
theorem ca6_177 : cal 6 177 = some (1, 120, 1098) := by decide +kernel
theorem ca15_54 : cal 15 54 = some (1, 121, 1102) := by decide +kernel
theorem ca6_205 : cal 6 205 = some (1, 122, 1106) := by decide +kernel
theorem ca15_58 : cal 15 58 = some (1, 123, 1110) := by decide +kernel
theorem ca6_208 : cal 6 208 = some (1, 124, 1114) := by decide +kernel
theorem ca15_63 : cal 15 63 = some (1, 125, 1118) := by decide +kernel
theorem ca6_211 : cal 6 211 = some (1, 126, 1122) := by decide +kernel
theorem ca15_67 : cal 15 67 = some (1, 127, 1126) := by decide +kernel
theorem ca6_221 : cal 6 221 = some (1, 128, 1130) := by decide +kernel
theorem ca6_215 : cal 6 215 = some (1, 129, 1134) := by decide +kernel
theorem ca6_218 : cal 6 218 = some (0, 130, 1138) := by decide +kernel
theorem ca15_71 : cal 15 71 = some (1, 131, 1141) := by decide +kernel
theorem ca6_224 : cal 6 224 = some (1, 132, 1145) := by decide +kernel
theorem ca15_76 : cal 15 76 = some (1, 133, 1149) := by decide +kernel
theorem ca6_227 : cal 6 227 = some (1, 134, 1153) := by decide +kernel
theorem ca15_80 : cal 15 80 = some (1, 135, 1157) := by decide +kernel
theorem ca6_231 : cal 6 231 = some (1, 136, 1161) := by decide +kernel
theorem ca15_84 : cal 15 84 = some (1, 137, 1165) := by decide +kernel
theorem ca6_234 : cal 6 234 = some (1, 138, 1169) := by decide +kernel
theorem ca15_88 : cal 15 88 = some (1, 139, 1173) := by decide +kernel
theorem ca6_237 : cal 6 237 = some (1, 140, 1177) := by decide +kernel
theorem ca15_92 : cal 15 92 = some (1, 141, 1181) := by decide +kernel
theorem ca6_243 : cal 6 243 = some (1, 142, 1185) := by decide +kernel
theorem ca6_240 : cal 6 240 = some (1, 143, 1189) := by decide +kernel
theorem ca6_246 : cal 6 246 = some (1, 144, 1193) := by decide +kernel
theorem ca15_96 : cal 15 96 = some (1, 145, 1197) := by decide +kernel
theorem ca15_100 : cal 15 100 = some (1, 146, 1201) := by decide +kernel
theorem ca15_104 : cal 15 104 = some (1, 147, 1205) := by decide +kernel
theorem ca6_252 : cal 6 252 = some (0, 148, 1209) := by decide +kernel
theorem ca6_255 : cal 6 255 = some (1, 149, 1212) := by decide +kernel
theorem ca6_258 : cal 6 258 = some (1, 145, 1216) := by decide +kernel
theorem ca15_108 : cal 15 108 = some (1, 150, 1217) := by decide +kernel
theorem ca6_265 : cal 6 265 = some (1, 151, 1221) := by decide +kernel
theorem ca6_261 : cal 6 261 = some (1, 152, 1225) := by decide +kernel
theorem ca15_112 : cal 15 112 = some (1, 153, 1229) := by decide +kernel
theorem ca6_268 : cal 6 268 = some (1, 154, 1233) := by decide +kernel
theorem ca15_116 : cal 15 116 = some (1, 155, 1237) := by decide +kernel
theorem ca6_271 : cal 6 271 = some (1, 156, 1241) := by decide +kernel
theorem ca15_121 : cal 15 121 = some (1, 157, 1245) := by decide +kernel
theorem ca6_278 : cal 6 278 = some (1, 158, 1249) := by decide +kernel
theorem ca6_274 : cal 6 274 = some (0, 159, 1253) := by decide +kernel
theorem ca6_282 : cal 6 282 = some (0, 160, 1256) := by decide +kernel
theorem ca15_125 : cal 15 125 = some (1, 161, 1260) := by decide +kernel
theorem ca6_290 : cal 6 290 = some (1, 162, 1264) := by decide +kernel
theorem ca6_287 : cal 6 287 = some (1, 163, 1269) := by decide +kernel
theorem ca15_129 : cal 15 129 = some (1, 164, 1273) := by decide +kernel
theorem ca15_133 : cal 15 133 = some (1, 165, 1277) := by decide +kernel
theorem ca15_138 : cal 15 138 = some (1, 166, 1281) := by decide +kernel
theorem ca6_296 : cal 6 296 = some (1, 167, 1285) := by decide +kernel
theorem ca6_299 : cal 6 299 = some (1, 168, 1289) := by decide +kernel
theorem ca15_142 : cal 15 142 = some (1, 169, 1293) := by decide +kernel
theorem ca15_147 : cal 15 147 = some (1, 170, 1298) := by decide +kernel
theorem ca15_151 : cal 15 151 = some (1, 171, 1302) := by decide +kernel
theorem ca15_155 : cal 15 155 = some (1, 172, 1306) := by decide +kernel
theorem ca6_304 : cal 6 304 = some (1, 173, 1310) := by decide +kernel
theorem ca15_160 : cal 15 160 = some (1, 174, 1314) := by decide +kernel
theorem ca6_311 : cal 6 311 = some (1, 172, 1320) := by decide +kernel
theorem ca6_314 : cal 6 314 = some (1, 175, 1321) := by decide +kernel
theorem ca6_318 : cal 6 318 = some (1, 176, 1325) := by decide +kernel
theorem ca6_321 : cal 6 321 = some (1, 177, 1329) := by decide +kernel
theorem ca2_25 : cal 2 25 = some (2, 46, 698) := by decide +kernel
