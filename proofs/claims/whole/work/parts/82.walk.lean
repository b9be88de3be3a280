/-! the law's walk through the two constructors -/
section WLK
variable {p : Program} {l : Launch} {e : Env} {s : State} {m : MethodId} {args : Array Value} {below : List Frame} {meth : Method} {c : Code} {Q : State → Prop}
variable {tc : Nat → ClassId} {D : va_G} {A : Nat → Prop} {ls : Array Slot} {a0 a1 a2 b : Nat}
def vF5 (a0 a1 a2 : Nat) (U : State) : Prop := va_AO "TideMen$Text" U ∧ va_AO "TideMen$Sheet" U ∧ va_Nw (.methodLinkNest "TideMen" 17 yX0_init "TideMen") U ∧ va_Nw (.methodLinkNest "TideMen$Days" 11 yX4_init "TideMen") U ∧ va_Nw (.methodLinkNest "TideMen" 42 yX2_init "TideMen") U ∧ va_Nw (.methodLinkNest "TideMen" 73 yX1_init "TideMen") U ∧ vk_R "TideMen" 64 "kffh" a0 U ∧ vk_R "TideMen" 69 "fn" a1 U ∧ vk_R "TideMen" 71 "dfnff" a2 U
theorem vF5_w {U : State} (hW : s.WarmedH U.vm) (h : vF5 a0 a1 a2 s) : vF5 a0 a1 a2 U :=
  ⟨h.1.moved hW.alike, h.2.1.moved hW.alike, va_Nw.warmM hW h.2.2.1, va_Nw.warmM hW h.2.2.2.1, va_Nw.warmM hW h.2.2.2.2.1, va_Nw.warmM hW h.2.2.2.2.2.1, vk_R.warm hW h.2.2.2.2.2.2.1, vk_R.warm hW h.2.2.2.2.2.2.2.1, vk_R.warm hW h.2.2.2.2.2.2.2.2⟩
theorem vF5_s {u U : State} (hv : U.vm = u.vm) (h : vF5 a0 a1 a2 u) : vF5 a0 a1 a2 U := by
  have hal : u.vm.Alike U.vm := by rw [hv]; exact Vm.Alike.refl u.vm
  exact ⟨h.1.moved hal, h.2.1.moved hal, va_Nw.same rfl hv.symm h.2.2.1, va_Nw.same rfl hv.symm h.2.2.2.1, va_Nw.same rfl hv.symm h.2.2.2.2.1, va_Nw.same rfl hv.symm h.2.2.2.2.2.1, vk_R.same hv h.2.2.2.2.2.2.1, vk_R.same hv h.2.2.2.2.2.2.2.1, vk_R.same hv h.2.2.2.2.2.2.2.2⟩
set_option maxHeartbeats 4000000 in
set_option maxRecDepth 100000 in
theorem b_walk (X : Cx p s m args c cL_law 4 "TideMenLaw" D tc) (hA : ∀ q, s.heap.size ≤ q → A q) (hV : vF5 a0 a1 a2 s) (hl : lv_has ls 4 [(0, .ref b)])
    (kk : ∀ (q5 q6 : Nat) (g h : Nat → Nat) (H : Heap) (locs : List Loc) (ls : Array Slot), va_P D vwCl (W_5 tc q5 a0 a1 a2 g ++ W_6 tc q6 h) H → va_D A (W_5 tc q5 a0 a1 a2 g ++ W_6 tc q6 h) → va_S A s.heap H locs → lv_has ls 4 [(3, .int 0), (2, .ref q6), (1, .ref q5), (0, .ref b)] → W p l e room_1 s m args below meth c H locs 104 3905 Q (F0 m 18 ls [])) : W p l e room_1 s m args below meth c s.heap [] 0 0 Q (F0 m 0 ls []) := by
  have hP : va_P D vwCl [] s.heap := fun k q h => by simp at h
  have hD : va_D A [] := ⟨fun i j p q h => by simp at h, fun k q h => by simp at h⟩
  have hS : va_S A s.heap s.heap [] := va_S.rf
  refine cn_new X 5 (by decide) 89 90 74 (by decide +kernel) (by decide +kernel) (by decide +kernel) hP hD hS hA (fs := [.null, .null, .null, .null, .null, .null, .null, .null, .null, .int 0, .int 0, .int 0]) (by decide +kernel) (Nat.le_of_ble_eq_true rfl) (Nat.le_of_ble_eq_true rfl) dL_law_0 (fun q5 H hP hD hS => ?_)
  refine lv_dup X.1 X.2.1 dL_law_3 rfl ?_
  refine cn_call X (n := 0) (As := []) (rest := [.ref q5]) (k_5 l D tc q5 a0 a1 a2) (fun U g mk a h => vF5_s (u := U) (U := U.calling g mk a) rfl h) (fun U hW => vF5_w hW hV) [] 0 [] 74 92 93 (by decide +kernel) (by decide +kernel) (by decide +kernel) (Or.inr (gw X 91 (by decide +kernel) rfl)) rfl (by decide +kernel) ⟨(Nat.le_of_ble_eq_true rfl), (Nat.le_of_ble_eq_true rfl)⟩ rfl rfl rfl hl.1 (Nat.le_of_ble_eq_true rfl) hP hD hS hA rfl rfl (by decide) (by decide) ⟨(Nat.le_of_ble_eq_true rfl), (Nat.le_of_ble_eq_true rfl)⟩ dL_law_4 rfl (fun g H locs hP hD hS => ?_)
  have hP : va_P D vwCl (W_5 tc q5 a0 a1 a2 g) H := hP
  have hD : va_D A (W_5 tc q5 a0 a1 a2 g) := hD
  refine lv_astore_n (lv' := [(1, .ref q5), (0, .ref b)]) X.1 X.2.1 dL_law_7 rfl hl (by decide) rfl (fun ls hl => ?_)
  refine cn_new X 6 (by decide) 848 849 80 (by decide +kernel) (by decide +kernel) (by decide +kernel) hP hD hS hA (fs := [.null, .null, .int 0, .null, .null, .null, .null, .int 0, .null, .null, .int 0, .null, .null, .null, .null, .int 0, .int 0, .null, .null, .null, .null, .null, .null, .null, .int 0, .null, .null, .int 0, .null, .null, .null, .null, .null, .null, .null, .null, .null, .int 0]) (by decide +kernel) (Nat.le_of_ble_eq_true rfl) (Nat.le_of_ble_eq_true rfl) dL_law_8 (fun q6 H hP hD hS => ?_)
  refine lv_dup X.1 X.2.1 dL_law_11 rfl ?_
  refine cn_call X (n := 0) (As := []) (rest := [.ref q6]) (k_6 l D tc q6) (fun _ _ _ _ _ => trivial) (fun _ _ => trivial) (W_5 tc q5 a0 a1 a2 g) 73 (List.range 73) 80 851 852 (by decide +kernel) (by decide +kernel) (by decide +kernel) (Or.inr (gw X 850 (by decide +kernel) rfl)) rfl (by decide +kernel) ⟨(Nat.le_of_ble_eq_true rfl), (Nat.le_of_ble_eq_true rfl)⟩ rfl rfl rfl hl.1 (Nat.le_of_ble_eq_true rfl) hP hD hS hA rfl rfl (by decide) (by decide) ⟨(Nat.le_of_ble_eq_true rfl), (Nat.le_of_ble_eq_true rfl)⟩ dL_law_12 rfl (fun h H locs hP hD hS => ?_)
  refine lv_astore_n (lv' := [(2, .ref q6), (1, .ref q5), (0, .ref b)]) X.1 X.2.1 dL_law_15 rfl hl (by decide) rfl (fun ls hl => ?_)
  refine lv_iconst (v := 0) X.1 X.2.1 dL_law_16 (by decide) ?_
  refine lv_istore_n (lv' := [(3, .int 0), (2, .ref q6), (1, .ref q5), (0, .ref b)]) X.1 X.2.1 dL_law_17 rfl hl (by decide) rfl (fun ls hl => ?_)
  exact kk q5 q6 g h H locs ls hP hD hS hl
end WLK
