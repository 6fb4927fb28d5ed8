/-! PURE 2: a minute of the class's border, as a total function -/
def adv1 (b : S2) (t : Nat) : S2 := if b 5 t = 2 then (if 0 < b 6 t - 1 then up2 b 6 t (b 6 t - 1) else up2 (up2 (up2 b 6 t (b 6 t - 1)) 5 t 3) 7 t (b 0 0 + 1)) else b
def sh1 (b : S2) (t : Nat) : S2 := if b 5 t = 0 then (if 0 < b 4 t - 1 then up2 b 4 t (b 4 t - 1) else up2 (up2 (up2 b 4 t (b 4 t - 1)) 5 t 4) 0 1 (b 0 1 + 1)) else b
def mxa (x : Int32) : Int32 := if x - 1 < 0 then 0 else x - 1
def mna (x : Int32) : Int32 := if 9 < x + 1 then 9 else x + 1
def beg (N : Nat) (b : S2) (g t : Nat) : S2 := up2 (up2 (up2 b 9 g (nI t)) 10 g (stime N b t)) 5 t 1
def son (b : S2) (g t : Nat) : S2 :=
  if b 10 g - 1 ≤ 0 then
    (if fnd b g t = 0 then up2 (up2 (up2 (up2 (up2 b 10 g (b 10 g - 1)) 5 t 2) 6 t 5) 9 g (-1)) 8 g (mxa (b 8 g))
     else up2 (up2 (up2 (up2 (up2 b 10 g (b 10 g - 1)) 0 2 (b 0 2 + 3 * hid (b 1 t) (b 2 t))) 5 t 4) 9 g (-1)) 8 g (mxa (b 8 g)))
  else up2 b 10 g (b 10 g - 1)
def wrk (N : Nat) (b : S2) (g : Nat) : S2 :=
  if b 9 g = -1 then
    (if fa (b 5) N 0 = -1 then up2 b 8 g (mna (b 8 g)) else beg N b g (fa (b 5) N 0).toNatClampNeg)
  else son b g (b 9 g).toNatClampNeg
def mn (N G : Nat) (b : S2) : S2 :=
  up2 (itn (wrk N) G 0 (itn sh1 N 0 (itn adv1 N 0 b))) 0 0 ((itn (wrk N) G 0 (itn sh1 N 0 (itn adv1 N 0 b))) 0 0 + 1)
theorem adv1_0 (b : S2) (t : Nat) : adv1 b t 0 = b 0 := by
  unfold adv1
  split
  · split
    · rw [up2_c (by omega)]
    · rw [up2_c (by omega), up2_c (by omega), up2_c (by omega)]
  · rfl
theorem adv1_s {b : S2} {t : Nat} (ht : t < 24) (n : Nat) (hN : ¬ b 0 3 ≤ nI t) : X0_advanceTransits_L2 (n + 1) (nI t) b = X0_advanceTransits_L2 n (nI (t + 1)) (adv1 b t) := by
  rw [X0_advanceTransits_L2, if_neg hN, ldA_n (by omega) (by omega), bd1_some]
  unfold adv1
  by_cases h : b 5 t = 2
  · rw [if_pos h, if_pos h, ldA_n (by omega) (by omega), bd1_some, stA_n (by omega) (by omega), bd1_some, ldA_n (by omega) (by omega), bd1_some, up2_e (by omega)]
    by_cases h2 : 0 < b 6 t - 1
    · rw [if_pos h2, if_pos h2, nI_1]
    · rw [if_neg h2, if_neg h2, stA_n (by omega) (by omega), bd1_some, stA_n (by omega) (by omega), bd1_some, nI_1, up2_n (by omega), up2_n (by omega)]
  · rw [if_neg h, if_neg h, nI_1]
theorem adv_L {N : Nat} (hN' : N ≤ 24) : ∀ (m n t : Nat) (b : S2), b 0 3 = nI N → t + m = N → m < n → X0_advanceTransits_L2 n (nI t) b = some (itn adv1 m t b) := by
  intro m
  induction m with
  | zero =>
    intro n t b hN ht hn
    obtain ⟨n, rfl⟩ := pos_fuel hn
    rw [X0_advanceTransits_L2, hN, if_pos (nI_le (by omega) (by omega))]
    rfl
  | succ m ih =>
    intro n t b hN ht hn
    obtain ⟨n, rfl⟩ := pos_fuel hn
    rw [adv1_s (by omega) n (by rw [hN]; exact nI_ge (by omega) (by omega))]
    exact ih n (t + 1) _ (by rw [adv1_0, hN]) (by omega) (by omega)
theorem sh1_03 (b : S2) (t j : Nat) (hj : j ≠ 1) : sh1 b t 0 j = b 0 j := by
  unfold sh1
  split
  · split
    · rw [up2_n (by omega)]
    · rw [up2_n (by omega), up2_n (by omega), up2_n (by omega)]
  · rfl
theorem sh1_s {b : S2} {t : Nat} (ht : t < 24) (n : Nat) (hN : ¬ b 0 3 ≤ nI t) : X0_shortenLullabies_L2 (n + 1) (nI t) b = X0_shortenLullabies_L2 n (nI (t + 1)) (sh1 b t) := by
  rw [X0_shortenLullabies_L2, if_neg hN, ldA_n (by omega) (by omega), bd1_some]
  unfold sh1
  by_cases h : b 5 t = 0
  · rw [if_pos h, if_pos h, ldA_n (by omega) (by omega), bd1_some, stA_n (by omega) (by omega), bd1_some, ldA_n (by omega) (by omega), bd1_some, up2_e (by omega)]
    by_cases h2 : 0 < b 4 t - 1
    · rw [if_pos h2, if_pos h2, nI_1]
    · rw [if_neg h2, if_neg h2, stA_n (by omega) (by omega), bd1_some, bd1_some, nI_1, up2_n (k' := 0) (j' := 1) (by omega), up2_n (k' := 0) (j' := 1) (by omega)]
  · rw [if_neg h, if_neg h, nI_1]
theorem sh_L {N : Nat} (hN' : N ≤ 24) : ∀ (m n t : Nat) (b : S2), b 0 3 = nI N → t + m = N → m < n → X0_shortenLullabies_L2 n (nI t) b = some (itn sh1 m t b) := by
  intro m
  induction m with
  | zero =>
    intro n t b hN ht hn
    obtain ⟨n, rfl⟩ := pos_fuel hn
    rw [X0_shortenLullabies_L2, hN, if_pos (nI_le (by omega) (by omega))]
    rfl
  | succ m ih =>
    intro n t b hN ht hn
    obtain ⟨n, rfl⟩ := pos_fuel hn
    rw [sh1_s (by omega) n (by rw [hN]; exact nI_ge (by omega) (by omega))]
    exact ih n (t + 1) _ (by rw [sh1_03 _ _ _ (by omega), hN]) (by omega) (by omega)
/-- what holds of the guards and those whom they search -/
def Gd (N G : Nat) (b : S2) : Prop :=
  (∀ g, g < G → (∃ a, a ≤ 9 ∧ b 8 g = nI a) ∧ (b 9 g = -1 ∨ ∃ t, t < N ∧ b 9 g = nI t ∧ b 5 t = 1)) ∧
  (∀ g g' t, g < G → g' < G → t < N → b 9 g = nI t → b 9 g' = nI t → g = g')
def Iv (N G : Nat) (b : S2) : Prop := Hd N G b ∧ Gd N G b ∧ ∀ t, t < N → b 5 t = 2 → ∃ k, 1 ≤ k ∧ k ≤ 5 ∧ b 6 t = nI k
theorem nI_inj {a b : Nat} (ha : a < 2 ^ 31) (hb : b < 2 ^ 31) (h : nI a = nI b) : a = b := (nI_eq ha hb).mp h
theorem mxa_n {a : Nat} (h : a ≤ 9) : ∃ c, c ≤ 9 ∧ mxa (nI a) = nI c := by
  have : ∀ a : Fin 10, mxa (nI a.val) = nI (a.val - 1) := by decide
  exact ⟨a - 1, by omega, this ⟨a, by omega⟩⟩
theorem mna_n {a : Nat} (h : a ≤ 9) : ∃ c, c ≤ 9 ∧ mna (nI a) = nI c := by
  have : ∀ a : Fin 10, mna (nI a.val) = nI (min (a.val + 1) 9) := by decide
  exact ⟨min (a + 1) 9, by omega, this ⟨a, by omega⟩⟩
theorem adv1_iv {N G : Nat} {b : S2} (h : Iv N G b) {t : Nat} (ht : t < N) : Iv N G (adv1 b t) := by
  obtain ⟨hd, ⟨g1, g2⟩, tr⟩ := h
  have hN := hd.1
  refine ⟨⟨hd.1, hd.2.1, by rw [adv1_0]; exact hd.2.2.1, by rw [adv1_0]; exact hd.2.2.2⟩, ?_⟩
  unfold adv1
  by_cases h5 : b 5 t = 2
  · obtain ⟨k, k1, k2, k3⟩ := tr t ht h5
    have e : b 6 t - 1 = nI (k - 1) := by
      rw [k3]
      obtain ⟨k, rfl⟩ : ∃ k', k = k' + 1 := ⟨k - 1, by omega⟩
      exact nI_pred k
    rw [if_pos h5, e]
    by_cases h0 : 0 < nI (k - 1)
    · rw [if_pos h0]
      refine ⟨⟨fun g hg => ?_, fun g g' s hg hg' hs => ?_⟩, fun s hs => ?_⟩
      · rw [up2_c (by omega), up2_c (by omega), up2_c (by omega)]; exact g1 g hg
      · rw [up2_c (by omega)]; exact g2 g g' s hg hg' hs
      · rw [up2_c (by omega)]
        intro h
        by_cases es : s = t
        · subst es
          rw [up2_e (by omega)]
          refine ⟨k - 1, ?_, by omega, rfl⟩
          rcases Nat.eq_zero_or_pos (k - 1) with z | z
          · rw [z] at h0; exact absurd h0 (by decide)
          · exact z
        · rw [up2_n (by omega)]; exact tr s hs h
    · rw [if_neg h0]
      refine ⟨⟨fun g hg => ?_, fun g g' s hg hg' hs => ?_⟩, fun s hs => ?_⟩
      · refine ⟨by simpa only [up2_c (show (8 : Nat) ≠ 7 by omega), up2_c (show (8 : Nat) ≠ 5 by omega), up2_c (show (8 : Nat) ≠ 6 by omega)] using (g1 g hg).1, ?_⟩
        rcases (g1 g hg).2 with q | ⟨s, q1, q2, q3⟩
        · exact Or.inl (by rw [up2_c (by omega), up2_c (by omega), up2_c (by omega)]; exact q)
        · refine Or.inr ⟨s, q1, by rw [up2_c (by omega), up2_c (by omega), up2_c (by omega)]; exact q2, ?_⟩
          have : s ≠ t := by intro es; rw [es, h5] at q3; exact absurd q3 (by decide)
          rw [up2_c (by omega), up2_n (by omega), up2_c (by omega)]; exact q3
      · rw [up2_c (by omega), up2_c (by omega), up2_c (by omega)]; exact g2 g g' s hg hg' hs
      · rw [up2_c (show (5 : Nat) ≠ 7 by omega), up2_c (show (6 : Nat) ≠ 7 by omega), up2_c (show (6 : Nat) ≠ 5 by omega)]
        intro h
        by_cases es : s = t
        · subst es
          rw [up2_e (by omega)] at h
          exact absurd h (by decide)
        · rw [up2_n (by omega), up2_c (by omega)] at h
          rw [up2_n (by omega)]; exact tr s hs h
  · rw [if_neg h5]
    exact ⟨⟨g1, g2⟩, tr⟩
theorem sh1_iv {N G : Nat} {b : S2} (h : Iv N G b) {t : Nat} (ht : t < N) : Iv N G (sh1 b t) := by
  obtain ⟨hd, ⟨g1, g2⟩, tr⟩ := h
  refine ⟨⟨hd.1, hd.2.1, by rw [sh1_03 _ _ _ (by omega)]; exact hd.2.2.1, by rw [sh1_03 _ _ _ (by omega)]; exact hd.2.2.2⟩, ?_⟩
  unfold sh1
  by_cases h5 : b 5 t = 0
  · rw [if_pos h5]
    by_cases h0 : 0 < b 4 t - 1
    · rw [if_pos h0]
      refine ⟨⟨fun g hg => ?_, fun g g' s hg hg' hs => ?_⟩, fun s hs => ?_⟩
      · rw [up2_c (by omega), up2_c (by omega), up2_c (by omega)]; exact g1 g hg
      · rw [up2_c (by omega)]; exact g2 g g' s hg hg' hs
      · rw [up2_c (by omega), up2_c (by omega)]; exact tr s hs
    · rw [if_neg h0]
      refine ⟨⟨fun g hg => ?_, fun g g' s hg hg' hs => ?_⟩, fun s hs => ?_⟩
      · refine ⟨by simpa only [up2_c (show (8 : Nat) ≠ 0 by omega), up2_c (show (8 : Nat) ≠ 5 by omega), up2_c (show (8 : Nat) ≠ 4 by omega)] using (g1 g hg).1, ?_⟩
        rcases (g1 g hg).2 with q | ⟨s, q1, q2, q3⟩
        · exact Or.inl (by rw [up2_c (by omega), up2_c (by omega), up2_c (by omega)]; exact q)
        · refine Or.inr ⟨s, q1, by rw [up2_c (by omega), up2_c (by omega), up2_c (by omega)]; exact q2, ?_⟩
          have : s ≠ t := by intro es; rw [es, h5] at q3; exact absurd q3 (by decide)
          rw [up2_c (by omega), up2_n (by omega), up2_c (by omega)]; exact q3
      · rw [up2_c (by omega), up2_c (by omega), up2_c (by omega)]; exact g2 g g' s hg hg' hs
      · rw [up2_c (show (5 : Nat) ≠ 0 by omega), up2_c (show (6 : Nat) ≠ 0 by omega), up2_c (show (6 : Nat) ≠ 5 by omega), up2_c (show (6 : Nat) ≠ 4 by omega)]
        intro h
        by_cases es : s = t
        · subst es
          rw [up2_e (by omega)] at h
          exact absurd h (by decide)
        · rw [up2_n (by omega), up2_c (by omega)] at h
          exact tr s hs h
  · rw [if_neg h5]
    exact ⟨⟨g1, g2⟩, tr⟩
theorem beg_iv {N G : Nat} {b : S2} (h : Iv N G b) {g t : Nat} (hg : g < G) (ht : t < N) (h9 : b 9 g = -1) (h5 : b 5 t = 0) : Iv N G (beg N b g t) := by
  obtain ⟨hd, ⟨g1, g2⟩, tr⟩ := h
  have hN := hd.1
  have hs5 : ∀ s, s ≠ t → beg N b g t 5 s = b 5 s := fun s hs => by unfold beg; rw [up2_n (by omega), up2_c (by omega), up2_c (by omega)]
  have ht5 : beg N b g t 5 t = 1 := by unfold beg; rw [up2_e (by omega)]
  have h9' : ∀ g', g' ≠ g → beg N b g t 9 g' = b 9 g' := fun g' h => by unfold beg; rw [up2_c (by omega), up2_c (by omega), up2_n (by omega)]
  have h9g : beg N b g t 9 g = nI t := by unfold beg; rw [up2_c (by omega), up2_c (by omega), up2_e (by omega)]
  have h0 : beg N b g t 0 = b 0 := by unfold beg; rw [up2_c (by omega), up2_c (by omega), up2_c (by omega)]
  have h8 : beg N b g t 8 = b 8 := by unfold beg; rw [up2_c (by omega), up2_c (by omega), up2_c (by omega)]
  have h6 : beg N b g t 6 = b 6 := by unfold beg; rw [up2_c (by omega), up2_c (by omega), up2_c (by omega)]
  have no : ∀ g', g' < G → b 9 g' ≠ nI t := by
    intro g' hg' e
    rcases (g1 g' hg').2 with q | ⟨s, q1, q2, q3⟩
    · rw [q] at e; exact nI_m1 t (by omega) e.symm
    · rw [e] at q2
      have := nI_inj (by omega) (by omega) q2
      subst this
      rw [h5] at q3
      exact absurd q3 (by decide)
  refine ⟨⟨hd.1, hd.2.1, by rw [h0]; exact hd.2.2.1, by rw [h0]; exact hd.2.2.2⟩, ⟨fun g' hg' => ⟨by rw [h8]; exact (g1 g' hg').1, ?_⟩, fun a c s ha hc hs e1 e2 => ?_⟩, fun s hs h => ?_⟩
  · by_cases e : g' = g
    · subst e
      exact Or.inr ⟨t, ht, h9g, ht5⟩
    · rw [h9' g' e]
      rcases (g1 g' hg').2 with q | ⟨s, q1, q2, q3⟩
      · exact Or.inl q
      · refine Or.inr ⟨s, q1, q2, ?_⟩
        rw [hs5 s (fun es => by rw [es] at q2; exact no g' hg' q2)]
        exact q3
  · by_cases e3 : a = g
    · by_cases e4 : c = g
      · omega
      · rw [h9' c e4] at e2
        rw [e3, h9g] at e1
        have := nI_inj (by omega) (by omega) e1
        subst this
        exact absurd e2 (no c hc)
    · rw [h9' a e3] at e1
      by_cases e4 : c = g
      · rw [e4, h9g] at e2
        have := nI_inj (by omega) (by omega) e2
        subst this
        exact absurd e1 (no a ha)
      · rw [h9' c e4] at e2
        exact g2 a c s ha hc hs e1 e2
  · rw [h6]
    by_cases e : s = t
    · subst e; rw [ht5] at h; exact absurd h (by decide)
    · rw [hs5 s e] at h; exact tr s hs h
