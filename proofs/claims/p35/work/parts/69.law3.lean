/-! PURE 69: the law's look at the travellers, after the minute -/
/-- what can become of a traveller in a minute -/
def Tr (b c : S2) (t : Nat) : Prop :=
  (b 5 t = 0 ∧ c 5 t = 4 ∧ b 4 t = 1 ∧ c 4 t = 1 - 1) ∨ (b 5 t = 0 ∧ c 5 t = 0 ∧ b 4 t ≠ 1 ∧ c 4 t = b 4 t - 1) ∨ (b 5 t = 0 ∧ c 5 t = 1 ∧ b 4 t ≠ 1 ∧ c 4 t = b 4 t - 1) ∨
  (b 5 t = 1 ∧ c 5 t = 1 ∧ c 4 t = b 4 t) ∨ (b 5 t = 1 ∧ c 5 t = 2 ∧ c 4 t = b 4 t) ∨ (b 5 t = 1 ∧ c 5 t = 4 ∧ c 4 t = b 4 t ∧ 0 < hid (b 1 t) (b 2 t)) ∨
  (b 5 t = 2 ∧ c 5 t = 2 ∧ c 4 t = b 4 t) ∨ (b 5 t = 2 ∧ c 5 t = 3 ∧ c 4 t = b 4 t) ∨ (b 5 t = 3 ∧ c 5 t = 3 ∧ c 4 t = b 4 t) ∨ (b 5 t = 4 ∧ c 5 t = 4 ∧ c 4 t = b 4 t)
theorem Tr_of {N : Nat} {b c : S2} (l : Ls N b) {t : Nat} (ht : t < N) (h : TM b c t) : Tr b c t := by
  obtain ⟨h0, h4, h1, h2, h3, h5⟩ := h
  unfold Tr
  rcases (l t ht).2 with q | q | q | q | q
  · obtain ⟨a1, a2, a3⟩ := h0 q
    by_cases k : b 4 t = 1
    · exact Or.inl ⟨q, a2 k, k, by rw [a1, k]⟩
    · rcases a3 k with z | z
      · exact Or.inr (Or.inl ⟨q, z, k, a1⟩)
      · exact Or.inr (Or.inr (Or.inl ⟨q, z, k, a1⟩))
  · have e := h4 (by rw [q]; decide)
    rcases h1 q with z | z | ⟨z, z'⟩
    · exact Or.inr (Or.inr (Or.inr (Or.inl ⟨q, z, e⟩)))
    · exact Or.inr (Or.inr (Or.inr (Or.inr (Or.inl ⟨q, z, e⟩))))
    · exact Or.inr (Or.inr (Or.inr (Or.inr (Or.inr (Or.inl ⟨q, z, e, z'⟩)))))
  · have e := h4 (by rw [q]; decide)
    rcases h2 q with z | z
    · exact Or.inr (Or.inr (Or.inr (Or.inr (Or.inr (Or.inr (Or.inl ⟨q, z, e⟩))))))
    · exact Or.inr (Or.inr (Or.inr (Or.inr (Or.inr (Or.inr (Or.inr (Or.inl ⟨q, z, e⟩)))))))
  · have e := h4 (by rw [q]; decide)
    exact Or.inr (Or.inr (Or.inr (Or.inr (Or.inr (Or.inr (Or.inr (Or.inr (Or.inl ⟨q, h3 q, e⟩))))))))
  · have e := h4 (by rw [q]; decide)
    exact Or.inr (Or.inr (Or.inr (Or.inr (Or.inr (Or.inr (Or.inr (Or.inr (Or.inr ⟨q, h5 q, e⟩))))))))
def qF (b c : S2) (t : Nat) : Int32 := if b 5 t = 2 then (if c 5 t = 3 then 1 else 0) else 0
def qE (b c : S2) (t : Nat) : Int32 := if b 5 t = 0 then (if c 5 t = 4 then 1 else 0) else 0
def qH (b c : S2) (t : Nat) : Int32 := if b 5 t = 1 then (if c 5 t = 4 then 3 * hid (b 1 t) (b 2 t) else 0) else 0
theorem qF_e {b c : S2} {t : Nat} (h : Tr b c t) : sI (c 5) 3 t = sI (b 5) 3 t + qF b c t := by
  show (if c 5 t = 3 then (1 : Int32) else 0) = (if b 5 t = 3 then 1 else 0) + qF b c t
  unfold qF
  rcases h with ⟨e1, e2, -⟩ | ⟨e1, e2, -⟩ | ⟨e1, e2, -⟩ | ⟨e1, e2, -⟩ | ⟨e1, e2, -⟩ | ⟨e1, e2, -⟩ | ⟨e1, e2, -⟩ | ⟨e1, e2, -⟩ | ⟨e1, e2, -⟩ | ⟨e1, e2, -⟩ <;> rw [e1, e2] <;> decide
theorem qE_e {b c : S2} {t : Nat} (h : Tr b c t) : eI b t = qE b c t := by
  show (if b 5 t = 0 ∧ b 4 t = 1 then (1 : Int32) else 0) = qE b c t
  unfold qE
  rcases h with ⟨e1, e2, e3, -⟩ | ⟨e1, e2, e3, -⟩ | ⟨e1, e2, e3, -⟩ | ⟨e1, e2, -⟩ | ⟨e1, e2, -⟩ | ⟨e1, e2, -⟩ | ⟨e1, e2, -⟩ | ⟨e1, e2, -⟩ | ⟨e1, e2, -⟩ | ⟨e1, e2, -⟩
  · rw [e1, e2, e3]; decide
  · rw [e1, e2, if_neg (fun q => e3 q.2)]; decide
  · rw [e1, e2, if_neg (fun q => e3 q.2)]; decide
  all_goals (rw [e1, e2, if_neg (fun q => absurd q.1 (by decide))]; decide)
theorem qH_e {b c : S2} (t : Nat) : pI b c t = qH b c t := by
  show (if b 5 t = 1 ∧ c 5 t = 4 then 3 * hid (b 1 t) (b 2 t) else 0) = qH b c t
  unfold qH
  by_cases e1 : b 5 t = 1
  · by_cases e2 : c 5 t = 4
    · rw [if_pos ⟨e1, e2⟩, if_pos e1, if_pos e2]
    · rw [if_neg (fun q => e2 q.2), if_pos e1, if_neg e2]
  · rw [if_neg (fun q => e1 q.1), if_neg e1]
theorem one_le {x : Int32} (h : 0 < x) : 1 ≤ x := by
  rw [Int32.lt_iff_toInt_lt] at h
  rw [Int32.le_iff_toInt_le]
  have e0 : (0 : Int32).toInt = 0 := by decide
  have e1 : (1 : Int32).toInt = 1 := by decide
  omega
theorem L575_s {N G : Nat} {b c b2 u : S2} (l : Ls N b) (hT : ∀ s, s < N → TM b c s) (hd : Hd N G c) (h1 : c 1 = b 1) (h2 : c 2 = b 2) (K : Int32 → Int32 → Int32 → Option Int32) (sc : SC) (l3 l12 l13 l14 l15 : Int32) {f16 f20 f23 f27 : Nat → Int32} (hf : ∀ s, s < N → f16 s = b 5 s ∧ f20 s = b 4 s) : ∀ (m n t : Nat), t + m = N → m < n → L_law_L575 K sc N N N l3 (nI N) l12 l13 l14 l15 c b2 u f16 f20 f23 f27 n (sm (qF b c) t) (sm (qE b c) t) (sm (qH b c) t) (nI t) = K (sm (qF b c) N) (sm (qE b c) N) (sm (qH b c) N) := by
  have hN := hd.1
  intro m
  induction m with
  | zero =>
    intro n t ht hn
    obtain ⟨n, rfl⟩ := pos_fuel hn
    have e : t = N := by omega
    subst e
    rw [L_law_L575, if_pos (nI_le (by omega) (by omega))]
  | succ m ih =>
    intro n t ht hn
    obtain ⟨n, rfl⟩ := pos_fuel hn
    have htN : t < N := by omega
    have e1 := isT_1 hd.2.2.1 hN htN
    have A16 : ldA f16 N (nI t) = some (b 5 t) := by rw [ldA_n htN (by omega), (hf t htN).1]
    have A20 : ldA f20 N (nI t) = some (b 4 t) := by rw [ldA_n htN (by omega), (hf t htN).2]
    have S1 : X1_stateOf c b2 (nI t) = some (.inr (c 5 t)) := stateOf_1 (by omega) e1
    have L1 : X1_lullabyOf c b2 (nI t) = some (.inr (c 4 t)) := lullabyOf_1 (by omega) e1
    have H1 : X1_hiddenOf c b2 (nI t) = some (.inr (hid (b 1 t) (b 2 t))) := by rw [hiddenOf_1 (by omega) e1, h1, h2]
    have step : ∀ x y z, qF b c t = x → qE b c t = y → qH b c t = z → L_law_L575 K sc N N N l3 (nI N) l12 l13 l14 l15 c b2 u f16 f20 f23 f27 (n + 1) (sm (qF b c) t) (sm (qE b c) t) (sm (qH b c) t) (nI t) = L_law_L575 K sc N N N l3 (nI N) l12 l13 l14 l15 c b2 u f16 f20 f23 f27 n (sm (qF b c) t + x) (sm (qE b c) t + y) (sm (qH b c) t + z) (nI (t + 1)) → L_law_L575 K sc N N N l3 (nI N) l12 l13 l14 l15 c b2 u f16 f20 f23 f27 (n + 1) (sm (qF b c) t) (sm (qE b c) t) (sm (qH b c) t) (nI t) = K (sm (qF b c) N) (sm (qE b c) N) (sm (qH b c) N) := by
      intro x y z hx hy hz h
      rw [h, ← hx, ← hy, ← hz]
      exact ih n (t + 1) (by omega) (by omega)
    rcases Tr_of l htN (hT t htN) with ⟨e1, e2, e3, e4⟩ | ⟨e1, e2, e3, e4⟩ | ⟨e1, e2, e3, e4⟩ | ⟨e1, e2, e4⟩ | ⟨e1, e2, e4⟩ | ⟨e1, e2, e4, e3⟩ | ⟨e1, e2, e4⟩ | ⟨e1, e2, e4⟩ | ⟨e1, e2, e4⟩ | ⟨e1, e2, e4⟩
    · refine step 0 1 0 (by unfold qF; rw [e1, e2]; decide) (by unfold qE; rw [e1, e2]; decide) (by unfold qH; rw [e1, e2]; rfl) ?_
      rw [e1] at A16
      rw [e2] at S1
      rw [e4] at L1
      rw [e3] at A20
      rw [L_law_L575, if_neg (nI_ge (by omega) (by omega))]
      simp +decide only [S1, L1, H1, A16, A20, bz1_r, bd1_some, jo0, jo1, nI_1, if_true, if_false]
    · refine step 0 0 0 (by unfold qF; rw [e1, e2]; decide) (by unfold qE; rw [e1, e2]; decide) (by unfold qH; rw [e1, e2]; rfl) ?_
      rw [e1] at A16
      rw [e2] at S1
      rw [e4] at L1
      rw [L_law_L575, if_neg (nI_ge (by omega) (by omega))]
      simp +decide only [S1, L1, H1, A16, A20, bz1_r, bd1_some, jo0, jo1, nI_1, if_true, if_false, e3]
    · refine step 0 0 0 (by unfold qF; rw [e1, e2]; decide) (by unfold qE; rw [e1, e2]; decide) (by unfold qH; rw [e1, e2]; rfl) ?_
      rw [e1] at A16
      rw [e2] at S1
      rw [e4] at L1
      rw [L_law_L575, if_neg (nI_ge (by omega) (by omega))]
      simp +decide only [S1, L1, H1, A16, A20, bz1_r, bd1_some, jo0, jo1, nI_1, if_true, if_false, e3]
    · refine step 0 0 0 (by unfold qF; rw [e1, e2]; decide) (by unfold qE; rw [e1, e2]; decide) (by unfold qH; rw [e1, e2]; rfl) ?_
      rw [e1] at A16
      rw [e2] at S1
      rw [e4] at L1
      rw [L_law_L575, if_neg (nI_ge (by omega) (by omega))]
      simp +decide only [S1, L1, H1, A16, A20, bz1_r, bd1_some, jo0, jo1, nI_1, if_true, if_false]
    · refine step 0 0 0 (by unfold qF; rw [e1, e2]; decide) (by unfold qE; rw [e1, e2]; decide) (by unfold qH; rw [e1, e2]; rfl) ?_
      rw [e1] at A16
      rw [e2] at S1
      rw [e4] at L1
      rw [L_law_L575, if_neg (nI_ge (by omega) (by omega))]
      simp +decide only [S1, L1, H1, A16, A20, bz1_r, bd1_some, jo0, jo1, nI_1, if_true, if_false]
    · refine step 0 0 (3 * hid (b 1 t) (b 2 t)) (by unfold qF; rw [e1, e2]; decide) (by unfold qE; rw [e1, e2]; decide) (by unfold qH; rw [if_pos e1, if_pos e2]) ?_
      rw [e1] at A16
      rw [e2] at S1
      rw [e4] at L1
      rw [L_law_L575, if_neg (nI_ge (by omega) (by omega))]
      simp +decide only [S1, L1, H1, A16, A20, bz1_r, bd1_some, jo0, jo1, nI_1, if_true, if_false, one_le e3]
    · refine step 0 0 0 (by unfold qF; rw [e1, e2]; decide) (by unfold qE; rw [e1, e2]; decide) (by unfold qH; rw [e1, e2]; rfl) ?_
      rw [e1] at A16
      rw [e2] at S1
      rw [e4] at L1
      rw [L_law_L575, if_neg (nI_ge (by omega) (by omega))]
      simp +decide only [S1, L1, H1, A16, A20, bz1_r, bd1_some, jo0, jo1, nI_1, if_true, if_false]
    · refine step 1 0 0 (by unfold qF; rw [e1, e2]; decide) (by unfold qE; rw [e1, e2]; decide) (by unfold qH; rw [e1, e2]; rfl) ?_
      rw [e1] at A16
      rw [e2] at S1
      rw [e4] at L1
      rw [L_law_L575, if_neg (nI_ge (by omega) (by omega))]
      simp +decide only [S1, L1, H1, A16, A20, bz1_r, bd1_some, jo0, jo1, nI_1, if_true, if_false]
    · refine step 0 0 0 (by unfold qF; rw [e1, e2]; decide) (by unfold qE; rw [e1, e2]; decide) (by unfold qH; rw [e1, e2]; rfl) ?_
      rw [e1] at A16
      rw [e2] at S1
      rw [e4] at L1
      rw [L_law_L575, if_neg (nI_ge (by omega) (by omega))]
      simp +decide only [S1, L1, H1, A16, A20, bz1_r, bd1_some, jo0, jo1, nI_1, if_true, if_false]
    · refine step 0 0 0 (by unfold qF; rw [e1, e2]; decide) (by unfold qE; rw [e1, e2]; decide) (by unfold qH; rw [e1, e2]; rfl) ?_
      rw [e1] at A16
      rw [e2] at S1
      rw [e4] at L1
      rw [L_law_L575, if_neg (nI_ge (by omega) (by omega))]
      simp +decide only [S1, L1, H1, A16, A20, bz1_r, bd1_some, jo0, jo1, nI_1, if_true, if_false]
