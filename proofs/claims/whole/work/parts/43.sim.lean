/-! the pure town and the month on both sides -/
section SIMA
theorem it_sim {α β : Type} (F : Nat → α → α) (G : Nat → β → β) (R : Nat → α → β → Prop) (n : Nat) (h : ∀ k, k < n → ∀ a b, R k a b → R (k + 1) (F k a) (G k b)) (a : α) (b : β) (h0 : R 0 a b) : ∀ j, j ≤ n → R j (it j F a) (it j G b) := by
  intro j
  induction j with
  | zero => intro _; exact h0
  | succ j ih => intro hj; exact h j (by omega) _ _ (ih (by omega))
theorem up_at {m : AMem} {k j : Nat} {v : Int32} : up m k j v k j = v := by rw [up_ap, if_pos ⟨rfl, rfl⟩]
theorem up_off {m : AMem} {k j k2 j2 : Nat} {v : Int32} (h : k2 ≠ k ∨ j2 ≠ j) : up m k j v k2 j2 = m k2 j2 := by rw [up_ap, if_neg (by omega)]
theorem min_sym (a b : Int32) : (if a < b then a else b) = (if b < a then b else a) := by
  by_cases h1 : a < b
  · have h2 : ¬ b < a := by rw [fa2_lt] at h1 ⊢; omega
    rw [if_pos h1, if_neg h2]
  · by_cases h2 : b < a
    · rw [if_neg h1, if_pos h2]
    · rw [if_neg h1, if_neg h2]
      rw [fa2_lt] at h1 h2
      rw [fa2_eq]
      omega
/-- the pure town: rows as the town has them; in row 0: 3 the cap, 4 who is absent -/
def Wok (men inns fleet : Nat) (w : AMem) : Prop :=
  (men ≤ 8 ∧ inns ≤ 8 ∧ fleet ≤ 6) ∧
  (∀ k, k < men → (∃ a, a < 4 ∧ w 1 k = nI a) ∧ (∃ a, a < 10 ∧ w 2 k = nI a) ∧ (∃ a, a < 10 ∧ w 3 k = nI a) ∧ (∃ a, a < 8 ∧ w 4 k = nI a)) ∧
  (∀ k, k < inns → (∃ a, a < 10 ∧ w 5 k = nI a) ∧ (∃ a, a < 10 ∧ w 6 k = nI a)) ∧
  (∀ k, k < fleet → (∃ a, a < 100 ∧ w 7 k = nI a) ∧ (∃ a, a < 100 ∧ w 8 k = nI a) ∧ (∃ a, a < 10 ∧ w 9 k = nI a) ∧ (∃ a, a < 10 ∧ w 10 k = nI a)) ∧
  (∃ a, a < 10 ∧ w 0 3 = nI a) ∧ (∃ a, a < 64 ∧ w 0 4 = nI a)
def CW (t men inns fleet : Nat) (w m : AMem) : Prop := (m t 0 = nI men ∧ m t 1 = nI inns ∧ m t 2 = nI fleet) ∧ (m t 3 = w 0 3 ∧ m t 4 = w 0 4) ∧ (∀ i k, 1 ≤ i → i ≤ 4 → k < men → m (t + i) k = w i k) ∧ (∀ i k, 5 ≤ i → i ≤ 6 → k < inns → m (t + i) k = w i k) ∧ (∀ i k, 7 ≤ i → i ≤ 10 → k < fleet → m (t + i) k = w i k)
def MW (men inns fleet : Nat) (w m : AMem) : Prop := (m 73 2 = nI men ∧ m 73 7 = nI inns ∧ m 73 10 = nI fleet) ∧ (m 73 15 = w 0 3 ∧ m 73 16 = w 0 4) ∧ (∀ i k, 1 ≤ i → i ≤ 4 → k < men → m (75 + i) k = w i k) ∧ (∀ i k, 5 ≤ i → i ≤ 6 → k < inns → m (75 + i) k = w i k) ∧ (∀ i k, 7 ≤ i → i ≤ 10 → k < fleet → m (75 + i) k = w i k)
variable {men inns fleet d t : Nat} {w m M : AMem}
theorem CW_keep {m2 : AMem} (h : CW t men inns fleet w m) (hk : ∀ a j, t ≤ a → a ≤ t + 10 → m2 a j = m a j) : CW t men inns fleet w m2 := by
  unfold CW
  rw [hk t 0 (by omega) (by omega), hk t 1 (by omega) (by omega), hk t 2 (by omega) (by omega), hk t 3 (by omega) (by omega), hk t 4 (by omega) (by omega)]
  refine ⟨h.1, h.2.1, fun i k h1 h2 h3 => ?_, fun i k h1 h2 h3 => ?_, fun i k h1 h2 h3 => ?_⟩
  · rw [hk (t + i) k (by omega) (by omega)]; exact h.2.2.1 i k h1 h2 h3
  · rw [hk (t + i) k (by omega) (by omega)]; exact h.2.2.2.1 i k h1 h2 h3
  · rw [hk (t + i) k (by omega) (by omega)]; exact h.2.2.2.2 i k h1 h2 h3
theorem MW_keep {m2 : AMem} (h : MW men inns fleet w m) (h1 : ∀ j, j ≠ 24 → m2 73 j = m 73 j) (hk : ∀ a, 76 ≤ a → a ≤ 85 → m2 a = m a) : MW men inns fleet w m2 := by
  unfold MW
  rw [h1 2 (by omega), h1 7 (by omega), h1 10 (by omega), h1 15 (by omega), h1 16 (by omega)]
  refine ⟨h.1, h.2.1, fun i k h1 h2 h3 => ?_, fun i k h1 h2 h3 => ?_, fun i k h1 h2 h3 => ?_⟩
  · rw [hk (75 + i) (by omega) (by omega)]; exact h.2.2.1 i k h1 h2 h3
  · rw [hk (75 + i) (by omega) (by omega)]; exact h.2.2.2.1 i k h1 h2 h3
  · rw [hk (75 + i) (by omega) (by omega)]; exact h.2.2.2.2 i k h1 h2 h3
/-- where a man may be -/
def PlN (inns : Nat) (x : Int32) : Prop := x = -1 ∨ (∃ h, h < inns ∧ x = nI h) ∨ ∃ s, s < 6 ∧ x = nI (8 + s)
def Sim (d men inns : Nat) (m M : AMem) : Prop :=
  (∀ k, k < men → m (d + 1) k = M 86 k ∧ m (d + 2) k = M 87 k ∧ m (d + 3) k = M 88 k ∧ m (d + 4) k = M 93 k) ∧
  (∀ h, h < 8 → m (d + 5) h = M 89 h) ∧
  (∀ s, s < 6 → m (d + 7) s = M 90 s ∧ m (d + 8) s = M 91 s ∧ m (d + 9) s = M 92 s) ∧
  m d 14 = M 73 24 ∧ ∀ k, k < men → PlN inns (M 88 k)
theorem PlN_in {x : Int32} (hi : inns ≤ 8) (h : PlN inns x) (q : (nI 0 ≤ x ∧ x < nI 8)) : ∃ h, h < inns ∧ x = nI h := by
  rcases h with rfl | h | ⟨s, hs, rfl⟩
  · exact absurd q (by decide)
  · exact h
  · have := q.2
    rw [nI_lt8 (by omega) (by omega)] at this
    omega
theorem sim_cost (hc : CW t men inns fleet w m) (hM : MW men inns fleet w M) {k h : Nat} (hk : k < men) (hh : h < inns) (e : M 88 k = nI h) (h8 : inns ≤ 8) : costM t k h m = costG k M := by
  have c1 := hc.2.2.1
  have c2 := hM.2.2.1
  unfold costM costG
  rw [e, nI_cl8 (by omega), c1 1 k (by omega) (by omega) hk, c1 2 k (by omega) (by omega) hk, hc.2.2.2.1 5 h (by omega) (by omega) hh]
  rw [show M 76 k = w 1 k from c2 1 k (by omega) (by omega) hk, show M 77 k = w 2 k from c2 2 k (by omega) (by omega) hk, show M 80 h = w 5 h from hM.2.2.2.1 5 h (by omega) (by omega) hh]
theorem sim_pay (h8 : inns ≤ 8) (hc : CW t men inns fleet w m) (hM : MW men inns fleet w M) (hS : Sim d men inns m M) {k : Nat} (hk : k < men) : Sim d men inns (payM d t k m) (payG k M) := by
  obtain ⟨S1, S2, S3, S4, S5⟩ := hS
  obtain ⟨e1, e2, e3, e4⟩ := S1 k hk
  unfold payM payG
  rw [e3]
  by_cases q : (nI 0 ≤ M 88 k ∧ M 88 k < nI 8)
  · obtain ⟨h, hh, e⟩ := PlN_in h8 (S5 k hk) q
    rw [if_pos q, if_pos q]
    have hcost := sim_cost hc hM hk hh e h8
    unfold paidG
    dsimp only
    rw [e, nI_cl8 (by omega), hcost, e1, e2, S2 h (by omega), min_sym (M 87 k)]
    generalize (if costG k M < M 87 k then costG k M else M 87 k) = p
    generalize costG k M = c
    refine ⟨fun i hi => ?_, fun j hj => ?_, fun s hs => ?_, ?_, fun i hi => ?_⟩
    · obtain ⟨f1, f2, f3, f4⟩ := S1 i hi
      by_cases z : i = k
      · subst z
        simp [up_ap, f3, f4]
      · simp [up_ap, z, f1, f2, f3, f4]
    · by_cases z : j = h
      · subst z
        simp [up_ap]
      · simp [up_ap, z, S2 j hj]
    · simp [up_ap, S3 s hs]
    · simp [up_ap, S4]
    · simp [up_ap, S5 i hi]
  · rw [if_neg q, if_neg q]
    exact ⟨S1, S2, S3, S4, S5⟩
theorem pay_c (hd : dd d t) {k : Nat} (hc : CW t men inns fleet w m) : CW t men inns fleet w (payM d t k m) := CW_keep hc (fun a j h1 h2 => payM_t (by rcases hd with ⟨rfl, rfl⟩ | ⟨rfl, rfl⟩ <;> omega))
theorem pay_m {k : Nat} (hM : MW men inns fleet w M) : MW men inns fleet w (payG k M) := MW_keep hM (fun j _ => by rw [payG_row (by omega)]) (fun a h1 h2 => payG_row (by omega))
theorem sim_pays (hd : dd d t) (h8 : inns ≤ 8) (hc : CW t men inns fleet w m) (hM : MW men inns fleet w M) (hS : Sim d men inns m M) : Sim d men inns (it men (payM d t) m) (it men payG M) := by
  have key := it_sim (payM d t) payG (fun _ m M => CW t men inns fleet w m ∧ MW men inns fleet w M ∧ Sim d men inns m M) men (fun k hk a b h => ⟨pay_c hd h.1, pay_m h.2.1, sim_pay h8 h.1 h.2.1 h.2.2 hk⟩) m M ⟨hc, hM, hS⟩ men (Nat.le_refl _)
  exact key.2.2
end SIMA
