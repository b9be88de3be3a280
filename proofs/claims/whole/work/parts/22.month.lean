section MONTH
variable {S : AScr} {f : Nat} {m : AMem} {Rt : Option Value → AMem → Prop} {d t : Nat}
def shipF (d t men : Nat) (day : Nat) (k : Nat) (m : AMem) : AMem := if m (t + 7) k = nI day ∧ (m t 4 >>> (nI k &&& 31)) &&& nI 1 = nI 0 then departM d t men k (nI day) m else m
def keepM (d day : Nat) (m : AMem) : AMem :=
  let m1 := upA m (d + 10) (va_cpy (m (d + 1)) (m (d + 10)) 0 (8 * day) 8)
  let m2 := upA m1 (d + 11) (va_cpy (m (d + 2)) (m (d + 11)) 0 (8 * day) 8)
  let m3 := upA m2 (d + 12) (va_cpy (m (d + 3)) (m (d + 12)) 0 (8 * day) 8)
  upA m3 (d + 13) (va_cpy (m (d + 5)) (m (d + 13)) 0 (8 * day) 8)
def dayM (d t men fleet : Nat) (day : Nat) (m : AMem) : AMem := keepM d day (it men (payM d t) (it fleet (shipF d t men day) m))
def runM (d t men fleet : Nat) (m : AMem) : AMem := it 30 (dayM d t men fleet) (beginM d t men m)
theorem depE_t {s a j : Nat} (h : a < d ∨ d + 14 ≤ a) : depE d s m a j = m a j := by
  unfold depE
  split
  · rfl
  · rw [up_ap, if_neg (by omega)]
theorem depL_t {men s : Nat} {day : Int32} {a j : Nat} (h : a < d ∨ d + 14 ≤ a) : ∀ (r n : Nat) (m : AMem), depL d t men s day r n m a j = m a j := by
  intro r
  induction r with
  | zero => intro n m; rfl
  | succ r ih =>
    intro n m
    unfold depL
    split
    · cases (deepM d men (m (d + 7) s) m).1 with
      | none => rfl
      | some k => exact (ih _ _).trans (takeM_t h)
    · rfl
theorem shipF_t {men day k a j : Nat} (h : a < d ∨ d + 14 ≤ a) : shipF d t men day k m a j = m a j := by
  unfold shipF
  split
  · unfold departM
    rw [depE_t h, depL_t h]
  · rfl
theorem payM_t {k a j : Nat} (h : a < d ∨ d + 14 ≤ a) : payM d t k m a j = m a j := by
  unfold payM
  split
  · simp only [up_ap]
    rw [if_neg (by omega), if_neg (by omega), if_neg (by omega)]
  · rfl
theorem keepM_t {day a j : Nat} (h : a < d ∨ d + 14 ≤ a) : keepM d day m a j = m a j := by
  unfold keepM
  simp only [upA_ap]
  rw [if_neg (by omega), if_neg (by omega), if_neg (by omega), if_neg (by omega)]
theorem dayM_t {men fleet day a j : Nat} (h : a < d ∨ d + 14 ≤ a) : dayM d t men fleet day m a j = m a j := by
  unfold dayM
  rw [keepM_t h, it_at (fun k m => payM_t h), it_at (fun k m => shipF_t h)]
theorem beginM_t {men a j : Nat} (h : a < d ∨ d + 14 ≤ a) : beginM d t men m a j = m a j := by
  unfold beginM
  rw [it_at (fun k m => beg3_t h), it_at (fun k m => beg2_t h), it_at (fun k m => beg1_t h), up_ap, if_neg (by omega)]
theorem runM_t {men fleet a j : Nat} (h : a < d ∨ d + 14 ≤ a) : runM d t men fleet m a j = m a j := by
  unfold runM
  rw [it_at (fun k m => dayM_t h), beginM_t h]
theorem nI_mul8 (a b : Nat) : nI a * nI b = nI (a * b) := pk_mul a b
theorem shipF_run (hd : dd d t) {men fleet day : Nat} (h8 : men ≤ 8) (hf : fleet ≤ 6) (m : AMem) (hm : m t 0 = nI men ∧ m t 2 = nI fleet) : T S (f + 4) 0 14 [some (.ref d), some (.int (nI day)), some (.int (nI 0))] [] m Rt = T S (f + 4) 0 51 [some (.ref d), some (.int (nI day)), some (.int (nI 0))] [] (it fleet (shipF d t men day) m) Rt := by
  have htd := dd_t hd
  have e := it_run (fun k (m : AMem) => T S (f + 4) 0 14 [some (.ref d), some (.int (nI day)), some (.int (nI k))] [] m Rt) (shipF d t men day) (fun _ m => m t 0 = nI men ∧ m t 2 = nI fleet) fleet (fun k _ m h => by rw [shipF_t htd, shipF_t htd]; exact h) (fun k hk m hm => by
    have h6 : ¬ fleet ≤ k := by omega
    have hk6 : k < 6 := by omega
    refine u0_14.trans ?_
    by_cases h : m (t + 7) k = nI day ∧ (m t 4 >>> (nI k &&& 31)) &&& nI 1 = nI 0
    · rcases hd with ⟨rfl, rfl⟩ | ⟨rfl, rfl⟩ <;> simp only [Nat.reduceAdd] at h
      · simp (disch := omega) only [u0_0, u0_1, u0_1v1, u0_4, u0_5, u0_7, u0_9, u0_12, u0_13, u0_15, u0_16, u0_16v1, u0_19, u0_19v1, u0_22, u0_25, u0_26, u0_26v1, u0_29, u0_30, u0_31, u0_31v1, u0_34, u0_37, u0_38, u0_39, u0_40, u0_40v1, u0_43, u0_46, u0_49, u0_50, u0_52, u0_53, u0_53v1, u0_56, u0_56v1, u0_59, u0_62, u0_63, u0_64, u0_64v1, u0_67, u0_70, u0_73, u0_74, u0_74v1, u0_77, u0_78, u0_79, u0_79v1, u0_82, u0_83, u0_85, u0_86, u0_88, u0_88v1, u0_88v2, u0_88v3, u0_91, u0_92, u0_92v1, u0_95, u0_96, u0_97, u0_97v1, u0_100, u0_101, u0_103, u0_104, u0_106, u0_106v1, u0_106v2, u0_106v3, u0_109, u0_110, u0_110v1, u0_113, u0_114, u0_115, u0_115v1, u0_118, u0_119, u0_121, u0_122, u0_124, u0_124v1, u0_124v2, u0_124v3, u0_127, u0_128, u0_128v1, u0_131, u0_132, u0_133, u0_133v1, u0_136, u0_137, u0_139, u0_140, u0_142, u0_142v1, u0_142v2, u0_142v3, u0_145, u0_148, u0_151, nI_le8, h6, hm, if_false, s_comes (Or.inl ⟨rfl, rfl⟩) hk6, s_depart (Or.inl ⟨rfl, rfl⟩) hk6 h8 hm.1, pu_some, pu_none, b01_e0, h, and_self, not_true, nI_add, Nat.reduceAdd]
        simp only [shipF, Nat.reduceAdd, h, and_self, if_true]
      · simp (disch := omega) only [u0_0, u0_1, u0_1v1, u0_4, u0_5, u0_7, u0_9, u0_12, u0_13, u0_15, u0_16, u0_16v1, u0_19, u0_19v1, u0_22, u0_25, u0_26, u0_26v1, u0_29, u0_30, u0_31, u0_31v1, u0_34, u0_37, u0_38, u0_39, u0_40, u0_40v1, u0_43, u0_46, u0_49, u0_50, u0_52, u0_53, u0_53v1, u0_56, u0_56v1, u0_59, u0_62, u0_63, u0_64, u0_64v1, u0_67, u0_70, u0_73, u0_74, u0_74v1, u0_77, u0_78, u0_79, u0_79v1, u0_82, u0_83, u0_85, u0_86, u0_88, u0_88v1, u0_88v2, u0_88v3, u0_91, u0_92, u0_92v1, u0_95, u0_96, u0_97, u0_97v1, u0_100, u0_101, u0_103, u0_104, u0_106, u0_106v1, u0_106v2, u0_106v3, u0_109, u0_110, u0_110v1, u0_113, u0_114, u0_115, u0_115v1, u0_118, u0_119, u0_121, u0_122, u0_124, u0_124v1, u0_124v2, u0_124v3, u0_127, u0_128, u0_128v1, u0_131, u0_132, u0_133, u0_133v1, u0_136, u0_137, u0_139, u0_140, u0_142, u0_142v1, u0_142v2, u0_142v3, u0_145, u0_148, u0_151, nI_le8, h6, hm, if_false, s_comes (Or.inr ⟨rfl, rfl⟩) hk6, s_depart (Or.inr ⟨rfl, rfl⟩) hk6 h8 hm.1, pu_some, pu_none, b01_e0, h, and_self, not_true, nI_add, Nat.reduceAdd]
        simp only [shipF, Nat.reduceAdd, h, and_self, if_true]
    · rcases hd with ⟨rfl, rfl⟩ | ⟨rfl, rfl⟩ <;> simp only [Nat.reduceAdd] at h
      · simp (disch := omega) only [u0_0, u0_1, u0_1v1, u0_4, u0_5, u0_7, u0_9, u0_12, u0_13, u0_15, u0_16, u0_16v1, u0_19, u0_19v1, u0_22, u0_25, u0_26, u0_26v1, u0_29, u0_30, u0_31, u0_31v1, u0_34, u0_37, u0_38, u0_39, u0_40, u0_40v1, u0_43, u0_46, u0_49, u0_50, u0_52, u0_53, u0_53v1, u0_56, u0_56v1, u0_59, u0_62, u0_63, u0_64, u0_64v1, u0_67, u0_70, u0_73, u0_74, u0_74v1, u0_77, u0_78, u0_79, u0_79v1, u0_82, u0_83, u0_85, u0_86, u0_88, u0_88v1, u0_88v2, u0_88v3, u0_91, u0_92, u0_92v1, u0_95, u0_96, u0_97, u0_97v1, u0_100, u0_101, u0_103, u0_104, u0_106, u0_106v1, u0_106v2, u0_106v3, u0_109, u0_110, u0_110v1, u0_113, u0_114, u0_115, u0_115v1, u0_118, u0_119, u0_121, u0_122, u0_124, u0_124v1, u0_124v2, u0_124v3, u0_127, u0_128, u0_128v1, u0_131, u0_132, u0_133, u0_133v1, u0_136, u0_137, u0_139, u0_140, u0_142, u0_142v1, u0_142v2, u0_142v3, u0_145, u0_148, u0_151, nI_le8, h6, hm, if_false, if_true, s_comes (Or.inl ⟨rfl, rfl⟩) hk6, pu_some, pu_none, b01_e0, h, not_false_iff, nI_add, Nat.reduceAdd]
        simp only [shipF, Nat.reduceAdd, h, if_false]
      · simp (disch := omega) only [u0_0, u0_1, u0_1v1, u0_4, u0_5, u0_7, u0_9, u0_12, u0_13, u0_15, u0_16, u0_16v1, u0_19, u0_19v1, u0_22, u0_25, u0_26, u0_26v1, u0_29, u0_30, u0_31, u0_31v1, u0_34, u0_37, u0_38, u0_39, u0_40, u0_40v1, u0_43, u0_46, u0_49, u0_50, u0_52, u0_53, u0_53v1, u0_56, u0_56v1, u0_59, u0_62, u0_63, u0_64, u0_64v1, u0_67, u0_70, u0_73, u0_74, u0_74v1, u0_77, u0_78, u0_79, u0_79v1, u0_82, u0_83, u0_85, u0_86, u0_88, u0_88v1, u0_88v2, u0_88v3, u0_91, u0_92, u0_92v1, u0_95, u0_96, u0_97, u0_97v1, u0_100, u0_101, u0_103, u0_104, u0_106, u0_106v1, u0_106v2, u0_106v3, u0_109, u0_110, u0_110v1, u0_113, u0_114, u0_115, u0_115v1, u0_118, u0_119, u0_121, u0_122, u0_124, u0_124v1, u0_124v2, u0_124v3, u0_127, u0_128, u0_128v1, u0_131, u0_132, u0_133, u0_133v1, u0_136, u0_137, u0_139, u0_140, u0_142, u0_142v1, u0_142v2, u0_142v3, u0_145, u0_148, u0_151, nI_le8, h6, hm, if_false, if_true, s_comes (Or.inr ⟨rfl, rfl⟩) hk6, pu_some, pu_none, b01_e0, h, not_false_iff, nI_add, Nat.reduceAdd]
        simp only [shipF, Nat.reduceAdd, h, if_false]) m hm
  have hm2 : (it fleet (shipF d t men day) m) t 2 = nI fleet := by
    rw [it_at (fun k m => shipF_t htd)]
    exact hm.2
  refine e.trans ?_
  rcases hd with ⟨rfl, rfl⟩ | ⟨rfl, rfl⟩
  all_goals
    refine u0_14.trans ?_
    simp (disch := omega) only [u0_0, u0_1, u0_1v1, u0_4, u0_5, u0_7, u0_9, u0_12, u0_13, u0_15, u0_16, u0_16v1, u0_19, u0_19v1, u0_22, u0_25, u0_26, u0_26v1, u0_29, u0_30, u0_31, u0_31v1, u0_34, u0_37, u0_38, u0_39, u0_40, u0_40v1, u0_43, u0_46, u0_49, u0_50, u0_52, u0_53, u0_53v1, u0_56, u0_56v1, u0_59, u0_62, u0_63, u0_64, u0_64v1, u0_67, u0_70, u0_73, u0_74, u0_74v1, u0_77, u0_78, u0_79, u0_79v1, u0_82, u0_83, u0_85, u0_86, u0_88, u0_88v1, u0_88v2, u0_88v3, u0_91, u0_92, u0_92v1, u0_95, u0_96, u0_97, u0_97v1, u0_100, u0_101, u0_103, u0_104, u0_106, u0_106v1, u0_106v2, u0_106v3, u0_109, u0_110, u0_110v1, u0_113, u0_114, u0_115, u0_115v1, u0_118, u0_119, u0_121, u0_122, u0_124, u0_124v1, u0_124v2, u0_124v3, u0_127, u0_128, u0_128v1, u0_131, u0_132, u0_133, u0_133v1, u0_136, u0_137, u0_139, u0_140, u0_142, u0_142v1, u0_142v2, u0_142v3, u0_145, u0_148, u0_151, nI_le8, hm2, Nat.le_refl, if_true]
theorem payM_run (hd : dd d t) {men day : Nat} (h8 : men ≤ 8) (m : AMem) (hm : m t 0 = nI men) : T S (f + 4) 0 51 [some (.ref d), some (.int (nI day)), some (.int (nI 0))] [] m Rt = T S (f + 4) 0 73 [some (.ref d), some (.int (nI day)), some (.int (nI men))] [] (it men (payM d t) m) Rt := by
  have htd := dd_t hd
  have e := it_run (fun k (m : AMem) => T S (f + 4) 0 51 [some (.ref d), some (.int (nI day)), some (.int (nI k))] [] m Rt) (payM d t) (fun _ m => m t 0 = nI men) men (fun k _ m h => by rw [payM_t htd]; exact h) (fun k hk m hm => by
    have h6 : ¬ men ≤ k := by omega
    have hk8 : k < 8 := by omega
    refine u0_51.trans ?_
    rcases hd with ⟨rfl, rfl⟩ | ⟨rfl, rfl⟩
    · simp (disch := omega) only [u0_0, u0_1, u0_1v1, u0_4, u0_5, u0_7, u0_9, u0_12, u0_13, u0_15, u0_16, u0_16v1, u0_19, u0_19v1, u0_22, u0_25, u0_26, u0_26v1, u0_29, u0_30, u0_31, u0_31v1, u0_34, u0_37, u0_38, u0_39, u0_40, u0_40v1, u0_43, u0_46, u0_49, u0_50, u0_52, u0_53, u0_53v1, u0_56, u0_56v1, u0_59, u0_62, u0_63, u0_64, u0_64v1, u0_67, u0_70, u0_74, u0_74v1, u0_77, u0_78, u0_79, u0_79v1, u0_82, u0_83, u0_85, u0_86, u0_88, u0_88v1, u0_88v2, u0_88v3, u0_91, u0_92, u0_92v1, u0_95, u0_96, u0_97, u0_97v1, u0_100, u0_101, u0_103, u0_104, u0_106, u0_106v1, u0_106v2, u0_106v3, u0_109, u0_110, u0_110v1, u0_113, u0_114, u0_115, u0_115v1, u0_118, u0_119, u0_121, u0_122, u0_124, u0_124v1, u0_124v2, u0_124v3, u0_127, u0_128, u0_128v1, u0_131, u0_132, u0_133, u0_133v1, u0_136, u0_137, u0_139, u0_140, u0_142, u0_142v1, u0_142v2, u0_142v3, u0_145, u0_148, u0_151, nI_le8, h6, hm, if_false, s_pay (Or.inl ⟨rfl, rfl⟩) hk8, pu_some, pu_none, nI_add]
    · simp (disch := omega) only [u0_0, u0_1, u0_1v1, u0_4, u0_5, u0_7, u0_9, u0_12, u0_13, u0_15, u0_16, u0_16v1, u0_19, u0_19v1, u0_22, u0_25, u0_26, u0_26v1, u0_29, u0_30, u0_31, u0_31v1, u0_34, u0_37, u0_38, u0_39, u0_40, u0_40v1, u0_43, u0_46, u0_49, u0_50, u0_52, u0_53, u0_53v1, u0_56, u0_56v1, u0_59, u0_62, u0_63, u0_64, u0_64v1, u0_67, u0_70, u0_74, u0_74v1, u0_77, u0_78, u0_79, u0_79v1, u0_82, u0_83, u0_85, u0_86, u0_88, u0_88v1, u0_88v2, u0_88v3, u0_91, u0_92, u0_92v1, u0_95, u0_96, u0_97, u0_97v1, u0_100, u0_101, u0_103, u0_104, u0_106, u0_106v1, u0_106v2, u0_106v3, u0_109, u0_110, u0_110v1, u0_113, u0_114, u0_115, u0_115v1, u0_118, u0_119, u0_121, u0_122, u0_124, u0_124v1, u0_124v2, u0_124v3, u0_127, u0_128, u0_128v1, u0_131, u0_132, u0_133, u0_133v1, u0_136, u0_137, u0_139, u0_140, u0_142, u0_142v1, u0_142v2, u0_142v3, u0_145, u0_148, u0_151, nI_le8, h6, hm, if_false, s_pay (Or.inr ⟨rfl, rfl⟩) hk8, pu_some, pu_none, nI_add]) m hm
  have hm2 : (it men (payM d t) m) t 0 = nI men := by
    rw [it_at (fun k m => payM_t htd)]
    exact hm
  refine e.trans ?_
  rcases hd with ⟨rfl, rfl⟩ | ⟨rfl, rfl⟩
  all_goals
    refine u0_51.trans ?_
    simp (disch := omega) only [u0_0, u0_1, u0_1v1, u0_4, u0_5, u0_7, u0_9, u0_12, u0_13, u0_15, u0_16, u0_16v1, u0_19, u0_19v1, u0_22, u0_25, u0_26, u0_26v1, u0_29, u0_30, u0_31, u0_31v1, u0_34, u0_37, u0_38, u0_39, u0_40, u0_40v1, u0_43, u0_46, u0_49, u0_50, u0_52, u0_53, u0_53v1, u0_56, u0_56v1, u0_59, u0_62, u0_63, u0_64, u0_64v1, u0_67, u0_70, u0_74, u0_74v1, u0_77, u0_78, u0_79, u0_79v1, u0_82, u0_83, u0_85, u0_86, u0_88, u0_88v1, u0_88v2, u0_88v3, u0_91, u0_92, u0_92v1, u0_95, u0_96, u0_97, u0_97v1, u0_100, u0_101, u0_103, u0_104, u0_106, u0_106v1, u0_106v2, u0_106v3, u0_109, u0_110, u0_110v1, u0_113, u0_114, u0_115, u0_115v1, u0_118, u0_119, u0_121, u0_122, u0_124, u0_124v1, u0_124v2, u0_124v3, u0_127, u0_128, u0_128v1, u0_131, u0_132, u0_133, u0_133v1, u0_136, u0_137, u0_139, u0_140, u0_142, u0_142v1, u0_142v2, u0_142v3, u0_145, u0_148, u0_151, nI_le8, hm2, Nat.le_refl, if_true]
theorem keep_run (hd : dd d t) {day : Nat} {x2 : Int32} (h : day < 30) (m : AMem) : T S (f + 4) 0 73 [some (.ref d), some (.int (nI day)), some (.int x2)] [] m Rt = T S (f + 4) 0 6 [some (.ref d), some (.int (nI (day + 1))), some (.int x2)] [] (keepM d day m) Rt := by
  have c0 : ¬ nI 0 < 0 := by decide
  have c8 : ¬ nI 8 < 0 := by decide
  have cd : ¬ nI (8 * day) < 0 := fun z => nI_pos (n := 8 * day) (by omega) z
  have e1 : (nI 0).toNatClampNeg = 0 := nI_cl8 (by omega)
  have e2 : (nI 8).toNatClampNeg = 8 := nI_cl8 (by omega)
  have e3 : (nI (8 * day)).toNatClampNeg = 8 * day := nI_cl8 (by omega)
  have e4 : nI day * nI 8 = nI (8 * day) := by rw [nI_mul8, Nat.mul_comm]
  have l1 : (0 + 8 ≤ 8) = True := by simp
  have l2 : (8 * day + 8 ≤ 240) = True := by simp; omega
  rcases hd with ⟨rfl, rfl⟩ | ⟨rfl, rfl⟩
  · simp only [u0_0, u0_1, u0_1v1, u0_4, u0_5, u0_7, u0_9, u0_12, u0_13, u0_15, u0_16, u0_16v1, u0_19, u0_19v1, u0_22, u0_25, u0_26, u0_26v1, u0_29, u0_30, u0_31, u0_31v1, u0_34, u0_37, u0_38, u0_39, u0_40, u0_40v1, u0_43, u0_46, u0_49, u0_50, u0_52, u0_53, u0_53v1, u0_56, u0_56v1, u0_59, u0_62, u0_63, u0_64, u0_64v1, u0_67, u0_70, u0_73, u0_74, u0_74v1, u0_77, u0_78, u0_79, u0_79v1, u0_82, u0_83, u0_85, u0_86, u0_88, u0_88v1, u0_88v2, u0_88v3, u0_91, u0_92, u0_92v1, u0_95, u0_96, u0_97, u0_97v1, u0_100, u0_101, u0_103, u0_104, u0_106, u0_106v1, u0_106v2, u0_106v3, u0_109, u0_110, u0_110v1, u0_113, u0_114, u0_115, u0_115v1, u0_118, u0_119, u0_121, u0_122, u0_124, u0_124v1, u0_124v2, u0_124v3, u0_127, u0_128, u0_128v1, u0_131, u0_132, u0_133, u0_133v1, u0_136, u0_137, u0_139, u0_140, u0_142, u0_142v1, u0_142v2, u0_142v3, u0_145, u0_148, u0_151, e4, c0, c8, cd, e1, e2, e3, l1, l2, not_false_iff, true_and, and_self, up_ap, upA_ap, Nat.reduceEqDiff, false_and, true_and, and_true, and_false, and_self, if_false, if_true, nI_add]
    rfl
  · simp only [u0_0, u0_1, u0_1v1, u0_4, u0_5, u0_7, u0_9, u0_12, u0_13, u0_15, u0_16, u0_16v1, u0_19, u0_19v1, u0_22, u0_25, u0_26, u0_26v1, u0_29, u0_30, u0_31, u0_31v1, u0_34, u0_37, u0_38, u0_39, u0_40, u0_40v1, u0_43, u0_46, u0_49, u0_50, u0_52, u0_53, u0_53v1, u0_56, u0_56v1, u0_59, u0_62, u0_63, u0_64, u0_64v1, u0_67, u0_70, u0_73, u0_74, u0_74v1, u0_77, u0_78, u0_79, u0_79v1, u0_82, u0_83, u0_85, u0_86, u0_88, u0_88v1, u0_88v2, u0_88v3, u0_91, u0_92, u0_92v1, u0_95, u0_96, u0_97, u0_97v1, u0_100, u0_101, u0_103, u0_104, u0_106, u0_106v1, u0_106v2, u0_106v3, u0_109, u0_110, u0_110v1, u0_113, u0_114, u0_115, u0_115v1, u0_118, u0_119, u0_121, u0_122, u0_124, u0_124v1, u0_124v2, u0_124v3, u0_127, u0_128, u0_128v1, u0_131, u0_132, u0_133, u0_133v1, u0_136, u0_137, u0_139, u0_140, u0_142, u0_142v1, u0_142v2, u0_142v3, u0_145, u0_148, u0_151, e4, c0, c8, cd, e1, e2, e3, l1, l2, not_false_iff, true_and, and_self, up_ap, upA_ap, Nat.reduceEqDiff, false_and, true_and, and_true, and_false, and_self, if_false, if_true, nI_add]
    rfl
theorem s_run (hd : dd d t) {men fleet : Nat} (h8 : men ≤ 8) (hf : fleet ≤ 6) (hm : m t 0 = nI men) (hs : m t 2 = nI fleet) : T S (f + 4) 0 0 [some (.ref d), none, none] [] m Rt = Rt none (runM d t men fleet m) := by
  have htd := dd_t hd
  obtain ⟨l2, e⟩ := it_runL (fun k (m : AMem) (l : Option Value) => T S (f + 4) 0 6 [some (.ref d), some (.int (nI k)), l] [] m Rt) (dayM d t men fleet) (fun _ m => m t 0 = nI men ∧ m t 2 = nI fleet) 30 (fun k _ m h => by rw [dayM_t htd, dayM_t htd]; exact h) (fun k hk m l hm => by
    refine ⟨some (.int (nI men)), ?_⟩
    have h6 : ¬ 30 ≤ k := by omega
    have hp : (it fleet (shipF d t men k) m) t 0 = nI men := by
      rw [it_at (fun k m => shipF_t htd)]
      exact hm.1
    refine u0_6.trans ?_
    simp (disch := omega) only [u0_7, u0_9, u0_12, u0_13, nI_le8, h6, if_false]
    exact (shipF_run hd h8 hf m hm).trans ((payM_run hd h8 _ hp).trans (keep_run hd hk _))) (beginM d t men m) none ⟨by rw [beginM_t htd]; exact hm, by rw [beginM_t htd]; exact hs⟩
  refine Eq.trans ?_ (e.trans ?_)
  · have hb : ∀ R2, T S (f + 3) 1 0 [some (.ref d), none] [] m R2 = R2 none (beginM d t men m) := fun R2 => s_begin (f := f + 1) hd h8 hm
    rcases hd with ⟨rfl, rfl⟩ | ⟨rfl, rfl⟩
    · simp only [u0_0, u0_1, u0_1v1, u0_4, u0_5, hb, pu_some, pu_none]
    · simp only [u0_0, u0_1, u0_1v1, u0_4, u0_5, hb, pu_some, pu_none]
  · refine u0_6.trans ?_
    simp (disch := omega) only [u0_7, u0_9, u0_151, nI_le8, Nat.le_refl, if_true]
    rfl
end MONTH
