/-! PURE 67: the law's look at the guards -/
theorem upd_e {f : Nat → Int32} {k j : Nat} {v : Int32} (h : j = k) : upd f k v j = v := by
  unfold upd
  rw [if_pos h]
theorem upd_n {f : Nat → Int32} {k j : Nat} {v : Int32} (h : j ≠ k) : upd f k v j = f j := by
  unfold upd
  rw [if_neg h]
theorem le_tr {a b c : Int32} (h : a ≤ b) (h' : b ≤ c) : a ≤ c := by
  rw [Int32.le_iff_toInt_le] at h h' ⊢
  omega
theorem lt_le {a b : Int32} (h : a < b) : a ≤ b := by
  rw [Int32.lt_iff_toInt_lt] at h
  rw [Int32.le_iff_toInt_le]
  omega
theorem le_rf (a : Int32) : a ≤ a := by
  rw [Int32.le_iff_toInt_le]
  omega
theorem ge0 {k : Nat} (h : k < 2 ^ 31) : (0 : Int32) ≤ nI k := nI_le (a := 0) (Nat.zero_le k) h
theorem le9 {k : Nat} (h : k ≤ 9) : ¬ (9 : Int32) < nI k := le_nlt (nI_le (b := 9) h (by omega))
theorem mal_i {al : Nat → Int32} {G : Nat} (hp : ∀ i, i < G → ¬ al i ≤ -1) : ∀ (m g : Nat) (l1 l2 : Int32), g + m = G → ((g = 0 ∧ l2 = -1) ∨ ∃ i, i < g ∧ l1 = nI i ∧ l2 = al i ∧ ∀ j, j < g → al j ≤ al i) → 0 < G → ∃ i, i < G ∧ mal al m g l1 l2 = nI i ∧ ∀ j, j < G → al j ≤ al i := by
  intro m
  induction m with
  | zero =>
    intro g l1 l2 hg h h0
    rcases h with ⟨e, -⟩ | ⟨i, i1, i2, i3, i4⟩
    · omega
    · exact ⟨i, by omega, i2, fun j hj => i4 j (by omega)⟩
  | succ m ih =>
    intro g l1 l2 hg h h0
    simp only [mal]
    by_cases c : al g ≤ l2
    · rw [if_pos c]
      refine ih (g + 1) l1 l2 (by omega) ?_ h0
      rcases h with ⟨e, e2⟩ | ⟨i, i1, i2, i3, i4⟩
      · rw [e2] at c
        exact absurd c (hp g (by omega))
      · refine Or.inr ⟨i, by omega, i2, i3, fun j hj => ?_⟩
        by_cases e : j = g
        · subst e
          rw [← i3]
          exact c
        · exact i4 j (by omega)
    · rw [if_neg c]
      refine ih (g + 1) _ _ (by omega) (Or.inr ⟨g, by omega, rfl, rfl, fun j hj => ?_⟩) h0
      by_cases e : j = g
      · subst e
        exact le_rf _
      · rcases h with ⟨e1, e2⟩ | ⟨i, i1, i2, i3, i4⟩
        · omega
        · rw [i3] at c
          exact le_tr (i4 j (by omega)) (lt_le (nle_lt c))
theorem most_i {N G : Nat} {b : S2} (v : Jv N G b) (h0 : 0 < G) : ∃ i, i < G ∧ mal (b 8) G 0 (-1) (-1) = nI i ∧ ∀ j, j < G → b 8 j ≤ b 8 i := by
  refine mal_i (fun i hi => ?_) G 0 _ _ (by omega) (Or.inl ⟨rfl, rfl⟩) h0
  obtain ⟨a, a1, a2⟩ := (v.1.2.1.1 i hi).1
  rw [a2, Int32.le_iff_toInt_le, nI_toInt (by omega), show (-1 : Int32).toInt = -1 by decide]
  omega
theorem L98_s {N G : Nat} {b b2 u : S2} (v : Jv N G b) (K : (Nat → Int32) → Option Int32) (sc : SC) (n15 n19 : Nat) (l3 l5 l10 : Int32) (f16 f20 f23 : Nat → Int32) : ∀ (m n g : Nat) (f : Nat → Int32), g + m = G → m < n → (∀ t, t < N → ((∃ i, i < g ∧ b 9 i = nI t) → f t = 1) ∧ ((¬ ∃ i, i < g ∧ b 9 i = nI t) → f t = 0)) → ∃ f', L_law_L98 K sc n15 n19 N l3 l5 l10 b b2 u f16 f20 f23 n (nI g) f = K f' ∧ ∀ t, t < N → f' t = if b 5 t = 1 then 1 else 0 := by
  have hN := v.1.1.1
  have hG := v.2.1
  have h4 := v.1.1.2.2.2
  obtain ⟨g1, g2⟩ := v.1.2.1
  intro m
  induction m with
  | zero =>
    intro n g f hg hn hf
    obtain ⟨n, rfl⟩ := pos_fuel hn
    have e : g = G := by omega
    subst e
    rw [L_law_L98]
    unfold X1_guards
    rw [bd1_some, h4, if_pos (nI_le (by omega) (by omega))]
    refine ⟨f, rfl, fun t ht => ?_⟩
    by_cases h : b 5 t = 1
    · rw [if_pos h]
      exact (hf t ht).1 (v.2.2.2.2.2.1 t ht h)
    · rw [if_neg h]
      refine (hf t ht).2 (fun ⟨i, i1, i2⟩ => ?_)
      rcases (g1 i i1).2 with q | ⟨t', q1, q2, q3⟩
      · rw [q] at i2
        exact nI_m1 t (by omega) i2.symm
      · have := nI_inj (by omega) (by omega) (i2.symm.trans q2)
        subst this
        exact h q3
  | succ m ih =>
    intro n g f hg hn hf
    obtain ⟨n, rfl⟩ := pos_fuel hn
    have hgG : g < G := by omega
    have eG := isG_1 h4 (by omega) hgG
    obtain ⟨⟨a, a1, a2⟩, g9⟩ := g1 g hgG
    obtain ⟨i, i1, i2, i3⟩ := most_i v (by omega)
    have eI := isG_1 h4 (by omega) i1
    rw [L_law_L98]
    unfold X1_guards
    rw [bd1_some, h4, if_neg (nI_ge (by omega) (by omega)), searches_1 (by omega) eG, bz1_r, alertnessOf_1 (by omega) eG, bz1_r, if_neg (show ¬ b 8 g < 0 by rw [a2]; exact nI_pos (by omega)), bz1_r, if_neg (show ¬ 9 < b 8 g by rw [a2]; exact le9 a1), bz1_r, mostAlert_e v.1.1, bd1_some, i2, alertnessOf_1 (by omega) eI, bz1_r, if_neg (le_nlt (i3 g hgG)), minutesToGo_1 (by omega) eG]
    dsimp only [jo1]
    rcases v.2.2.2.2.1 g hgG with ⟨c9, c10⟩ | ⟨c9, k, k1, k2, c10⟩
    · rw [c9, if_neg (show ¬ (0 : Int32) ≤ -1 by decide), bz1_r, c10, if_pos rfl, if_pos rfl, bz1_r, if_pos (show (0 : Int32) ≤ 0 by decide), if_pos n1_neg, nI_1]
      refine ih n (g + 1) f (by omega) (by omega) (fun t ht => ⟨fun ⟨j, j1, j2⟩ => ?_, fun hno => (hf t ht).2 (fun ⟨j, j1, j2⟩ => hno ⟨j, by omega, j2⟩)⟩)
      have : j ≠ g := by
        intro e
        rw [e, c9] at j2
        exact nI_m1 t (by omega) j2.symm
      exact (hf t ht).1 ⟨j, by omega, j2⟩
    · rcases g9 with q | ⟨t0, q1, q2, q3⟩
      · exact absurd q c9
      have f0 : f t0 = 0 := (hf t0 q1).2 (fun ⟨j, j1, j2⟩ => absurd (g2 g j t0 hgG (by omega) q1 q2 j2) (by omega))
      rw [q2, if_pos (ge0 (by omega)), bz1_r, c10, if_neg (nI_ne0 (by omega) (by omega)), if_pos rfl, bz1_r, if_pos (ge0 (by omega)), if_neg (nI_pos (by omega)), ldA_n q1 (by omega), bd1_some, stF_n q1 (by omega), bd1_some, nI_1]
      refine ih n (g + 1) _ (by omega) (by omega) (fun t ht => ⟨fun ⟨j, j1, j2⟩ => ?_, fun hno => ?_⟩)
      · by_cases e : t = t0
        · subst e
          rw [upd_e rfl, f0]
          rfl
        · rw [upd_n e]
          have : j ≠ g := by
            intro e'
            rw [e', q2] at j2
            exact e (nI_inj (by omega) (by omega) j2).symm
          exact (hf t ht).1 ⟨j, by omega, j2⟩
      · have : t ≠ t0 := fun e => hno ⟨g, by omega, by rw [e]; exact q2⟩
        rw [upd_n this]
        exact (hf t ht).2 (fun ⟨j, j1, j2⟩ => hno ⟨j, by omega, j2⟩)
