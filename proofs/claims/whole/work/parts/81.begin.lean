/-! what the machine holds at the law's entry -/
def i_at (ci : Nat) : Nat := [100, 289, 246, 267, 106, 90, 849].getD ci 0
theorem i_at_w : (List.range 7).all (fun ci => decide (lw_tbl[i_at ci]? = some (.instantiable (clR ci) (clN ci)))) = true := by decide +kernel
section BEG
variable {s : State} {args : Array Value}
theorem b_prim {ty : FieldType} (hp : ∀ C, ty ≠ .object C) (h : (Cond.arrayClass ty).before args s = true) : ∃ cA : ClassId, ArrOfT s cA ty ∧ va_RA s cA ty := by
  obtain ⟨cA, k, comp, h1, h2, h3⟩ := Cond.arrayClass_spec h
  refine ⟨cA, fun N z => ⟨(fun k h => by cases h), k, h2, comp, h3⟩, ?_⟩
  cases ty <;> first | exact h1 | exact absurd rfl (hp _)
theorem b_ref {C : String} (h : (Cond.arrayOver (.object C)).before args s = true) : ∃ cA : ClassId, ArrOfT s cA (.object C) ∧ va_RA s cA (.object C) := by
  obtain ⟨comp, cA, k, h1, -, h3, h4, h5⟩ := Cond.arrayOver_spec h
  exact ⟨cA, fun N z => ⟨(fun k h => by cases h), k, h3, comp, h4⟩, k, comp, h3, h4, h1, h5⟩
theorem b_w (hts : ∀ w ∈ lw_tbl, w.before args s = true) {w : Cond} (I : Nat) (h : lw_tbl[I]? = some w) : w.before args s = true := hts w (List.mem_of_getElem? h)
theorem b_K (hts : ∀ w ∈ lw_tbl, w.before args s = true) : ∃ (D : va_G) (tc : Nat → ClassId), va_K D vwCl (tysO tc) s := by
  have h : ∀ ci : Nat, ∃ q : ClassId × (Nat → Nat), ci < 7 → u_Kn s (clR ci) (fTT ci) (clN ci) q.1 q.2 := by
    intro ci
    by_cases h7 : ci < 7
    · obtain ⟨cC, iS, h⟩ := u_known (C := clR ci) (T := fTT ci) (N := clN ci) (n := clN ci) (ws := lw_tbl.filter goodWord) (fun w hw => hts w (List.mem_filter.mp hw).1) (lay_in h7) (b_w hts (i_at ci) (of_decide_eq_true (List.all_eq_true.mp i_at_w ci (List.mem_range.mpr h7))))
      exact ⟨(cC, iS), fun _ => h⟩
    · exact ⟨(0, fun _ => 0), fun h => absurd h h7⟩
  obtain ⟨g, hg⟩ := Classical.axiomOfChoice h
  obtain ⟨c0, k0⟩ := b_prim (ty := .int) (fun C h => by cases h) (b_w hts 184 (by decide +kernel))
  obtain ⟨c1, k1⟩ := b_prim (ty := .char) (fun C h => by cases h) (b_w hts 286 (by decide +kernel))
  obtain ⟨c2, k2⟩ := b_prim (ty := .boolean) (fun C h => by cases h) (b_w hts 969 (by decide +kernel))
  obtain ⟨c3, k3⟩ := b_ref (C := "TideMen$Text") (b_w hts 98 (by decide +kernel))
  obtain ⟨c4, k4⟩ := b_ref (C := "TideMen$Sheet") (b_w hts 266 (by decide +kernel))
  refine ⟨(fun c => (g c).1, fun c => (g c).2), fun t => match t with | 0 => c0 | 1 => c1 | 2 => c2 | 3 => c3 | _ => c4, fun c q hq => ?_, fun k q hq => ?_⟩
  · have hc : c < 7 := (List.getElem?_eq_some_iff.mp hq).1
    rw [cl_at c hc] at hq
    cases hq
    exact hg c hc
  · match k, hq with
    | 0, hq => cases hq; exact k0
    | 1, hq => cases hq; exact k1
    | 2, hq => cases hq; exact k2
    | 3, hq => cases hq; exact k3
    | 4, hq => cases hq; exact k4
    | k + 5, hq => exact absurd (List.getElem?_eq_some_iff.mp hq).1 (by show ¬ k + 5 < 5; omega)
def tmS (i : Nat) : Term := [Term.string "TideMen" 64, .string "TideMen" 69, .string "TideMen" 71, .string "TideMen$Text" 51].getD i (.int 0)
def prW : List Cond := flatC (Jvm.Cond.and given_1 narrow_1)
theorem pr_1 : ∀ i, i < 4 → (Cond.exactly (tmS i) "java/lang/String") ∈ prW ∧ (Cond.eq (.field (tmS i) "java/lang/String" "coder" "B") (.int 0)) ∈ prW ∧ (Cond.arrayOf (.field (tmS i) "java/lang/String" "value" "[B") .byte) ∈ prW ∧ (Cond.eq (.length (.field (tmS i) "java/lang/String" "value" "[B")) (.int (Int32.ofNat ((strL.map List.length).getD i 0)))) ∈ prW := by decide +kernel
theorem pr_2 : ∀ i, i < 4 → ∀ j, j < (strL.map List.length).getD i 0 → (Cond.eq (.elem (.field (tmS i) "java/lang/String" "value" "[B") (.int (Int32.ofNat j))) (.int ((strL.getD i []).getD j 0))) ∈ prW := by decide +kernel
theorem pr_3 : ∀ i, i < 4 → ∀ j, j < 4 → i ≠ j → (Cond.not (Cond.eq (tmS i) (tmS j))) ∈ prW ∨ (Cond.not (Cond.eq (tmS j) (tmS i))) ∈ prW := by decide +kernel
theorem pr_4 : (Cond.eq (.static "java/lang/String" "COMPACT_STRINGS" "Z") (.int 1)) ∈ prW ∧ (Cond.isRef (.static "jdk/internal/util/Preconditions" "SIOOBE_FORMATTER" "Ljava/util/function/BiFunction;")) ∈ prW := by decide +kernel
theorem b_S {A : Nat → Prop} (hpr : (Jvm.Cond.and given_1 narrow_1).before args s = true) (hA : ∀ a : Nat, a < s.heap.size → ¬ A a) : ∃ adK adV : Nat → Nat, vk_S 4 (strL.map List.length) strL adK adV A s s.heap ∧ ∀ i : Nat, i < 4 → (tmS i).eval args s none [] s = some (.ref (adK i)) := by
  have h := flat_of_before _ hpr
  refine vk_Sof (tm := tmS) (fun i hi => ?_) (fun i hi => h _ (pr_1 i hi).1) (fun i hi => h _ (pr_1 i hi).2.1) (fun i hi => h _ (pr_1 i hi).2.2.1) (fun i hi => h _ (pr_1 i hi).2.2.2) (fun i hi j hj => h _ (pr_2 i hi j hj)) (fun i j hi hj hij => ?_) hA
  · have e : ∀ i, i < 4 → (strL.map List.length).getD i 0 < 6 := by decide +kernel
    exact Nat.lt_of_lt_of_le (e i hi) (Nat.le_of_ble_eq_true rfl)
  · rcases pr_3 i hi j hj hij with q | q
    · exact Or.inl (h _ q)
    · exact Or.inr (h _ q)
theorem b_Z {A : Nat → Prop} (hts : ∀ w ∈ lw_tbl, w.before args s = true) (hpr : (Jvm.Cond.and given_1 narrow_1).before args s = true) (hA : ∀ a : Nat, a < s.heap.size → ¬ A a) : va_Z "java/lang/String" "COMPACT_STRINGS" "Z" (.int 1) A s s.heap ∧ ∃ nu : Value, nu.category = 1 ∧ va_Z "jdk/internal/util/Preconditions" "SIOOBE_FORMATTER" "Ljava/util/function/BiFunction;" nu A s s.heap := by
  have h := flat_of_before _ hpr
  refine ⟨va_Zof (b_w hts 383 (by decide +kernel)) (b_w hts 81 (by decide +kernel)) (va_eqi (h _ pr_4.1)) hA, ?_⟩
  rcases va_Zqof (b_w hts 399 (by decide +kernel)) (b_w hts 83 (by decide +kernel)) (h _ pr_4.2) hA with q | ⟨t, q⟩
  · exact ⟨.null, rfl, q⟩
  · exact ⟨.ref t, rfl, q⟩
theorem b_R {adK : Nat → Nat} (hts : ∀ w ∈ lw_tbl, w.before args s = true) (he : ∀ i : Nat, i < 4 → (tmS i).eval args s none [] s = some (.ref (adK i))) : vk_R "TideMen" 64 "kffh" (adK 0) s ∧ vk_R "TideMen" 69 "fn" (adK 1) s ∧ vk_R "TideMen" 71 "dfnff" (adK 2) s ∧ vk_R "TideMen$Text" 51 "astd" (adK 3) s :=
  ⟨vk_R.of (b_w hts 268 (by decide +kernel)) (he 0 (by omega)), vk_R.of (b_w hts 287 (by decide +kernel)) (he 1 (by omega)), vk_R.of (b_w hts 288 (by decide +kernel)) (he 2 (by omega)), vk_R.of (b_w hts 428 (by decide +kernel)) (he 3 (by omega))⟩
theorem b_N (hts : ∀ w ∈ lw_tbl, w.before args s = true) : va_AO "TideMen$Text" s ∧ va_AO "TideMen$Sheet" s ∧ va_Nw (.methodLinkNest "TideMen" 17 yX0_init "TideMen") s ∧ va_Nw (.methodLinkNest "TideMen$Days" 11 yX4_init "TideMen") s ∧ va_Nw (.methodLinkNest "TideMen" 42 yX2_init "TideMen") s ∧ va_Nw (.methodLinkNest "TideMen" 73 yX1_init "TideMen") s ∧ va_Nw (.methodLinkNest "TideMen$Sightings" 25 yX5_isDay "TideMen") s :=
  ⟨va_AO.of (b_w hts 98 (by decide +kernel)), va_AO.of (b_w hts 266 (by decide +kernel)), va_Nw.of rfl (b_w hts 101 (by decide +kernel)), va_Nw.of rfl (b_w hts 107 (by decide +kernel)), va_Nw.of rfl (b_w hts 247 (by decide +kernel)), va_Nw.of rfl (b_w hts 290 (by decide +kernel)), va_Nw.of rfl (b_w hts 698 (by decide +kernel))⟩
end BEG
