/-! PURE 61: a minute of the law's own object against the class's -/
theorem up2_cm {b : S2} {k j k' j' : Nat} {v v' : Int32} (h : ¬ (k = k' ∧ j = j')) : up2 (up2 b k j v) k' j' v' = up2 (up2 b k' j' v') k j v := by
  funext x y
  rw [up2_v, up2_v, up2_v, up2_v]
  by_cases h1 : x = k' ∧ y = j'
  · rw [if_pos h1, if_neg (fun g => h ⟨g.1.symm.trans h1.1, g.2.symm.trans h1.2⟩), if_pos h1]
  · rw [if_neg h1, if_neg h1]
theorem up2_id (b : S2) (k j : Nat) : up2 b k j (b k j) = b := by
  funext x y
  rw [up2_v]
  by_cases h : x = k ∧ y = j
  · rw [if_pos h, h.1, h.2]
  · rw [if_neg h]
theorem up2_up {b : S2} {k j : Nat} {v w : Int32} : up2 (up2 b k j v) k j w = up2 b k j w := by
  funext x y
  rw [up2_v, up2_v, up2_v]
  by_cases h : x = k ∧ y = j
  · rw [if_pos h, if_pos h]
  · rw [if_neg h, if_neg h, if_neg h]
theorem adv_sh {b : S2} {s t : Nat} (h : s ≠ t) : sh1 (adv1 b s) t = adv1 (sh1 b t) s := by
  have a5 : adv1 b s 5 t = b 5 t := by
    unfold adv1
    split
    · split <;> simp (disch := omega) only [up2_n]
    · rfl
  have a4 : adv1 b s 4 t = b 4 t := by
    unfold adv1
    split
    · split <;> simp (disch := omega) only [up2_n]
    · rfl
  have a0' : adv1 b s 0 1 = b 0 1 := by
    unfold adv1
    split
    · split <;> simp (disch := omega) only [up2_n]
    · rfl
  have s5 : sh1 b t 5 s = b 5 s := by
    unfold sh1
    split
    · split <;> simp (disch := omega) only [up2_n]
    · rfl
  have s6 : sh1 b t 6 s = b 6 s := by
    unfold sh1
    split
    · split <;> simp (disch := omega) only [up2_n]
    · rfl
  have s0 : sh1 b t 0 0 = b 0 0 := sh1_03 b t 0 (by omega)
  have L : sh1 (adv1 b s) t = if b 5 t = 0 then (if 0 < b 4 t - 1 then up2 (adv1 b s) 4 t (b 4 t - 1) else up2 (up2 (up2 (adv1 b s) 4 t (b 4 t - 1)) 5 t 4) 0 1 (b 0 1 + 1)) else adv1 b s := by
    rw [sh1, a5, a4, a0']
  have R : adv1 (sh1 b t) s = if b 5 s = 2 then (if 0 < b 6 s - 1 then up2 (sh1 b t) 6 s (b 6 s - 1) else up2 (up2 (up2 (sh1 b t) 6 s (b 6 s - 1)) 5 s 3) 7 s (b 0 0 + 1)) else sh1 b t := by
    rw [adv1, s5, s6, s0]
  rw [L, R]
  unfold adv1 sh1
  by_cases c1 : b 5 t = 0
  · by_cases c2 : 0 < b 4 t - 1
    · skip
      by_cases c3 : b 5 s = 2
      · by_cases c4 : 0 < b 6 s - 1
        · simp only [if_pos c1, if_pos c2, if_pos c3, if_pos c4]
          funext x y
          simp only [up2_v]
          (repeat' split) <;> first | rfl | (exfalso; omega)
        · simp only [if_pos c1, if_pos c2, if_pos c3, if_neg c4]
          funext x y
          simp only [up2_v]
          (repeat' split) <;> first | rfl | (exfalso; omega)
      · simp only [if_pos c1, if_pos c2, if_neg c3]
    · skip
      by_cases c3 : b 5 s = 2
      · by_cases c4 : 0 < b 6 s - 1
        · simp only [if_pos c1, if_neg c2, if_pos c3, if_pos c4]
          funext x y
          simp only [up2_v]
          (repeat' split) <;> first | rfl | (exfalso; omega)
        · simp only [if_pos c1, if_neg c2, if_pos c3, if_neg c4]
          funext x y
          simp only [up2_v]
          (repeat' split) <;> first | rfl | (exfalso; omega)
      · simp only [if_pos c1, if_neg c2, if_neg c3]
  · simp only [if_neg c1]
theorem itn_cm {f g : S2 → Nat → S2} (hc : ∀ b s t, s ≠ t → g (f b s) t = f (g b t) s) (t : Nat) : ∀ (m r : Nat) (b : S2), t < r → g (itn f m r b) t = itn f m r (g b t) := by
  intro m
  induction m with
  | zero => intro r b _; rfl
  | succ m ih =>
    intro r b hr
    show g (itn f m (r + 1) (f b r)) t = itn f m (r + 1) (f (g b t) r)
    rw [ih (r + 1) (f b r) (by omega), hc b r t (by omega)]
theorem itn_fuse {f g : S2 → Nat → S2} (hc : ∀ b s t, s ≠ t → g (f b s) t = f (g b t) s) : ∀ (m t : Nat) (b : S2), itn g m t (itn f m t b) = itn (fun b t => g (f b t) t) m t b := by
  intro m
  induction m with
  | zero => intro t b; rfl
  | succ m ih =>
    intro t b
    show itn g m (t + 1) (g (itn f m (t + 1) (f b t)) t) = itn (fun b t => g (f b t) t) m (t + 1) (g (f b t) t)
    rw [itn_cm hc t m (t + 1) (f b t) (by omega)]
    exact ih (t + 1) _
/-- both of a traveller's own turns of a minute -/
def cmb (b : S2) (t : Nat) : S2 := sh1 (adv1 b t) t
theorem mn_cmb (N G : Nat) (b : S2) : mn N G b = up2 (itn (wrk N) G 0 (itn cmb N 0 b)) 0 0 ((itn (wrk N) G 0 (itn cmb N 0 b)) 0 0 + 1) := by
  unfold mn
  rw [itn_fuse (fun b s t h => adv_sh h)]
  rfl
theorem cmb_iv {N G : Nat} {b : S2} (h : Iv N G b) {t : Nat} (ht : t < N) : Iv N G (cmb b t) := sh1_iv (adv1_iv h ht) ht
theorem SR_up {N G : Nat} {u b : S2} (r : SR N G u b) {k t : Nat} {v : Int32} (hk : ¬ (k = 0 ∧ 3 ≤ t)) (h5 : k = 5 → v = 2 → u 6 t = b 6 t) : SR N G (up2 u k t v) (up2 b k t v) := by
  have e : ∀ x y, u x y = b x y → up2 u k t v x y = up2 b k t v x y := by
    intro x y h
    rw [up2_v, up2_v, h]
  obtain ⟨⟨s0, s1, s2, s3, s4⟩, hg, ht⟩ := r
  refine ⟨⟨e 0 0 s0, e 0 1 s1, e 0 2 s2, by rw [up2_n (by omega)]; exact s3, by rw [up2_n (by omega)]; exact s4⟩, fun g q => ?_, fun s q => ?_⟩
  · obtain ⟨a1, a2, a3⟩ := hg g q
    exact ⟨e _ _ a1, e _ _ a2, e _ _ a3⟩
  · obtain ⟨a1, a2, a3, a4, a5, a6⟩ := ht s q
    refine ⟨e _ _ a1, e _ _ a2, e _ _ a3, e _ _ a4, e _ _ a5, fun h => ?_⟩
    by_cases c6 : 6 = k ∧ s = t
    · rw [up2_v, up2_v, if_pos c6, if_pos c6]
    · rw [up2_n c6, up2_n c6]
      by_cases c5 : 5 = k ∧ s = t
      · rw [up2_e c5] at h
        rw [c5.2]
        exact h5 c5.1.symm h
      · rw [up2_n c5] at h
        exact a6 h
theorem SR_7 {N G : Nat} {u b : S2} (r : SR N G u b) (t : Nat) (v : Int32) : SR N G u (up2 b 7 t v) := by
  obtain ⟨⟨s0, s1, s2, s3, s4⟩, hg, ht⟩ := r
  refine ⟨⟨?_, ?_, ?_, s3, s4⟩, fun g q => ?_, fun s q => ?_⟩
  · rw [up2_n (by omega)]; exact s0
  · rw [up2_n (by omega)]; exact s1
  · rw [up2_n (by omega)]; exact s2
  · rw [up2_c (by omega), up2_c (by omega), up2_c (by omega)]; exact hg g q
  · rw [up2_c (by omega), up2_c (by omega), up2_c (by omega), up2_c (by omega), up2_c (by omega), up2_c (by omega)]; exact ht s q
theorem SR_56 {N G : Nat} {u b : S2} (r : SR N G u b) {t : Nat} {v w : Int32} : SR N G (up2 (up2 u 5 t v) 6 t w) (up2 (up2 b 5 t v) 6 t w) := by
  rw [up2_cm (b := u) (by omega), up2_cm (b := b) (by omega)]
  exact SR_up (SR_up r (by omega) (by omega)) (by omega) (fun _ _ => by rw [up2_e ⟨rfl, rfl⟩, up2_e ⟨rfl, rfl⟩])
/-- who waits has a minute of a lullaby at least -/
def Lw (N : Nat) (b : S2) : Prop := ∀ t, t < N → b 5 t = 0 → ∃ k, 1 ≤ k ∧ k ≤ 60 ∧ b 4 t = nI k
theorem cmb_2 {b : S2} {t : Nat} (h : b 5 t = 2) : cmb b t = if 0 < b 6 t - 1 then up2 b 6 t (b 6 t - 1) else up2 (up2 (up2 b 6 t (b 6 t - 1)) 5 t 3) 7 t (b 0 0 + 1) := by
  unfold cmb
  have e : adv1 b t = if 0 < b 6 t - 1 then up2 b 6 t (b 6 t - 1) else up2 (up2 (up2 b 6 t (b 6 t - 1)) 5 t 3) 7 t (b 0 0 + 1) := by
    unfold adv1
    rw [if_pos h]
  rw [e]
  by_cases c : 0 < b 6 t - 1
  · rw [if_pos c, sh1, if_neg]
    rw [up2_n (by omega), h]
    decide
  · rw [if_neg c, sh1, if_neg]
    rw [up2_n (by omega), up2_e (by omega)]
    decide
theorem cmb_0 {b : S2} {t : Nat} (h : b 5 t = 0) : cmb b t = if 0 < b 4 t - 1 then up2 b 4 t (b 4 t - 1) else up2 (up2 (up2 b 4 t (b 4 t - 1)) 5 t 4) 0 1 (b 0 1 + 1) := by
  unfold cmb
  have e : adv1 b t = b := by
    unfold adv1
    rw [if_neg (by rw [h]; decide)]
  rw [e, sh1, if_pos h]
theorem cmb_n {b : S2} {t : Nat} (h0 : b 5 t ≠ 0) (h2 : b 5 t ≠ 2) : cmb b t = b := by
  unfold cmb
  have e : adv1 b t = b := by
    unfold adv1
    rw [if_neg h2]
  rw [e, sh1, if_neg h0]
theorem pos_nI {k : Nat} (h : k < 2 ^ 31) : 0 < nI k ↔ 0 < k := by
  rw [i0, nI_ltI (by omega) h]
theorem nI_m {k : Nat} (h : 1 ≤ k) : nI k - 1 = nI (k - 1) := by
  obtain ⟨k, rfl⟩ : ∃ k', k = k' + 1 := ⟨k - 1, by omega⟩
  exact nI_pred k
theorem Lw_cmb {N : Nat} {b : S2} (lw : Lw N b) (t : Nat) : Lw N (cmb b t) := by
  intro s hs h
  by_cases h2 : b 5 t = 2
  · rw [cmb_2 h2] at h ⊢
    by_cases c : 0 < b 6 t - 1
    · rw [if_pos c] at h ⊢
      rw [up2_n (by omega)] at h
      rw [up2_n (by omega)]
      exact lw s hs h
    · rw [if_neg c] at h ⊢
      simp (disch := omega) only [up2_n] at ⊢
      by_cases e : s = t
      · subst e
        rw [up2_n (by omega), up2_e (by omega)] at h
        exact absurd h (by decide)
      · simp (disch := omega) only [up2_n] at h
        exact lw s hs h
  · by_cases h0 : b 5 t = 0
    · rw [cmb_0 h0] at h ⊢
      by_cases c : 0 < b 4 t - 1
      · rw [if_pos c] at h ⊢
        rw [up2_n (by omega)] at h
        by_cases e : s = t
        · subst e
          rw [up2_e (by omega)]
          obtain ⟨k, k1, k2, k3⟩ := lw s hs h
          rw [k3, nI_m k1] at c ⊢
          exact ⟨k - 1, (pos_nI (by omega)).mp c, by omega, rfl⟩
        · rw [up2_n (by omega)]
          exact lw s hs h
      · rw [if_neg c] at h ⊢
        by_cases e : s = t
        · subst e
          rw [up2_n (by omega), up2_e (by omega)] at h
          exact absurd h (by decide)
        · simp (disch := omega) only [up2_n] at h ⊢
          exact lw s hs h
    · rw [cmb_n h0 h2] at h ⊢
      exact lw s hs h
theorem cmb_s {N G n n2 : Nat} {u b : S2} {f3 : Nat → Int32} (r : SR N G u b) (v : Iv N G b) (lw : Lw N b) {t : Nat} (ht : t < N) : ∃ u', X2_pass_L55 n2 (nI N) f3 (n + 1) (nI t) u = X2_pass_L55 n2 (nI N) f3 n (nI (t + 1)) u' ∧ SR N G u' (cmb b t) := by
  have hN := v.1.1
  have hT := SR_T r hN
  obtain ⟨q1, q2, q3, q4, q5, q6⟩ := r.2.2 t ht
  rw [X2_pass_L55, if_neg (nI_ge ht (by omega)), inT_n hT ht hN, bd1_some, nI_clamp (by omega), ldT_4 hT ht, bd1_some, q5]
  by_cases h2 : b 5 t = 2
  · obtain ⟨k, k1, k2, k3⟩ := v.2.2 t ht h2
    rw [if_pos h2, ldT_5 hT ht, bd1_some, stT_5 hT ht, bd1_some, ldT_5 (M := N) (by rw [nT_up (by omega)]; exact hT) ht, bd1_some, up2_e (by omega), q6 h2, cmb_2 h2, k3, nI_m k1, nI_1]
    have r1 : SR N G (up2 u 6 t (nI (k - 1))) (up2 b 6 t (nI (k - 1))) := SR_up r (by omega) (by omega)
    by_cases c : k = 1
    · subst c
      rw [if_pos (show nI (1 - 1) = 0 from rfl), if_neg (show ¬ 0 < nI (1 - 1) by decide), stT_4 (M := N) (by rw [nT_up (by omega)]; exact hT) ht, bd1_some]
      exact ⟨_, rfl, SR_7 (SR_up r1 (by omega) (fun _ z => absurd z (by decide))) _ _⟩
    · rw [if_neg (nI_ne0 (by omega) (by omega)), if_pos ((pos_nI (by omega)).mpr (by omega))]
      exact ⟨_, rfl, r1⟩
  · rw [if_neg h2, bd1_some]
    by_cases h0 : b 5 t = 0
    · obtain ⟨k, k1, k2, k3⟩ := lw t ht h0
      rw [if_pos h0, ldT_3 hT ht, bd1_some, stT_3 hT ht, bd1_some, ldT_3 (M := N) (by rw [nT_up (by omega)]; exact hT) ht, bd1_some, up2_e (by omega), q4, cmb_0 h0, k3, nI_m k1, nI_1]
      have r1 : SR N G (up2 u 4 t (nI (k - 1))) (up2 b 4 t (nI (k - 1))) := SR_up r (by omega) (by omega)
      by_cases c : k = 1
      · subst c
        rw [if_pos (show nI (1 - 1) = 0 from rfl), if_neg (show ¬ 0 < nI (1 - 1) by decide), stT_4 (M := N) (by rw [nT_up (by omega)]; exact hT) ht, bd1_some, bd1_some]
        refine ⟨_, rfl, ?_⟩
        have e : up2 (up2 u 4 t (nI (1 - 1))) 5 t 4 0 1 = b 0 1 := by
          rw [up2_n (by omega), up2_n (by omega)]
          exact r.1.2.1
        rw [e]
        exact SR_up (SR_up r1 (by omega) (fun _ z => absurd z (by decide))) (by omega) (by omega)
      · rw [if_neg (nI_ne0 (by omega) (by omega)), if_pos ((pos_nI (by omega)).mpr (by omega))]
        exact ⟨_, rfl, r1⟩
    · rw [if_neg h0, cmb_n h0 h2, nI_1]
      exact ⟨u, rfl, r⟩
theorem L55_s {N G n2 : Nat} {f3 : Nat → Int32} : ∀ (m n t : Nat) (u b : S2), SR N G u b → Iv N G b → Lw N b → t + m = N → m < n → ∃ u', X2_pass_L55 n2 (nI N) f3 n (nI t) u = X2_pass_L143 n2 f3 200 0 u' ∧ SR N G u' (itn cmb m t b) := by
  intro m
  induction m with
  | zero =>
    intro n t u b r v lw ht hn
    obtain ⟨n, rfl⟩ := pos_fuel hn
    have hN := v.1.1
    rw [X2_pass_L55, if_pos (nI_le (by omega) (by omega))]
    exact ⟨u, rfl, r⟩
  | succ m ih =>
    intro n t u b r v lw ht hn
    obtain ⟨n, rfl⟩ := pos_fuel hn
    obtain ⟨u1, e1, r1⟩ := cmb_s (n := n) (n2 := n2) (f3 := f3) r v lw (t := t) (by omega)
    rw [e1]
    exact ih n (t + 1) u1 _ r1 (cmb_iv v (by omega)) (Lw_cmb lw t) (by omega) (by omega)
theorem L10_s {N G : Nat} {u b : S2} (r : SR N G u b) (v : Iv N G b) : ∀ (m n g : Nat) (f : Nat → Int32), g + m = G → m < n → (∀ i, i < g → f i = if b 9 i = -1 then 1 else 0) → ∃ f', X2_pass_L10 G u n (nI g) f = X2_pass_L55 G (nI (nT u)) f' 200 0 u ∧ ∀ i, i < G → f' i = if b 9 i = -1 then 1 else 0 := by
  have hG := v.1.2.1
  have hGu := SR_G r hG
  intro m
  induction m with
  | zero =>
    intro n g f hg hn hf
    obtain ⟨n, rfl⟩ := pos_fuel hn
    rw [X2_pass_L10, hGu, if_pos (nI_le (by omega) (by omega))]
    exact ⟨f, rfl, fun i hi => hf i (by omega)⟩
  | succ m ih =>
    intro n g f hg hn hf
    obtain ⟨n, rfl⟩ := pos_fuel hn
    obtain ⟨p8, p9, p10⟩ := r.2.1 g (by omega)
    rw [X2_pass_L10, hGu, if_neg (nI_ge (by omega) (by omega)), inG_n hGu (by omega) hG, bd1_some, nI_clamp (by omega), ldG_1 hGu (by omega), bd1_some, p9]
    have nx : ∀ x : Int32, x = (if b 9 g = -1 then 1 else 0) → ∀ i, i < g + 1 → upd f g x i = if b 9 i = -1 then 1 else 0 := by
      intro x hx i hi
      by_cases e : i = g
      · subst e
        rw [pk_us]
        exact hx
      · rw [pk_un e]
        exact hf i (by omega)
    rcases (v.2.1.1 g (by omega)).2 with q | ⟨t, q1, q2, q3⟩
    · rw [q, if_neg (by decide), show bl 1 = some 1 from rfl, bd1_some, stF_n (by omega) (by omega), bd1_some, nI_1]
      exact ih n (g + 1) _ (by omega) (by omega) (nx 1 (by rw [if_pos q]))
    · have hN := v.1.1
      rw [q2, if_pos (nI_pos' (by omega)), show bl 0 = some 0 from rfl, bd1_some, stF_n (by omega) (by omega), bd1_some, nI_1]
      exact ih n (g + 1) _ (by omega) (by omega) (nx 0 (by rw [q2, if_neg (nI_m1 t (by omega))]))
theorem wrk_c {N G : Nat} {b : S2} (v : Iv N G b) {g : Nat} (hg : g < G) : (wrk N b g 1 = b 1 ∧ wrk N b g 2 = b 2 ∧ wrk N b g 3 = b 3 ∧ wrk N b g 4 = b 4) ∧ (∀ i, i ≠ g → wrk N b g 8 i = b 8 i ∧ wrk N b g 9 i = b 9 i ∧ wrk N b g 10 i = b 10 i) ∧ wrk N b g 0 0 = b 0 0 ∧ wrk N b g 0 1 = b 0 1 := by
  unfold wrk
  split
  · split
    · refine ⟨⟨up2_c (by omega), up2_c (by omega), up2_c (by omega), up2_c (by omega)⟩, fun i hi => ?_, up2_n (by omega), up2_n (by omega)⟩
      simp (disch := omega) only [up2_n, and_self]
    · unfold beg
      refine ⟨?_, fun i hi => ?_, ?_, ?_⟩
      · simp (disch := omega) only [up2_c, and_self]
      · simp (disch := omega) only [up2_n, and_self]
      · simp (disch := omega) only [up2_n]
      · simp (disch := omega) only [up2_n]
  · unfold son
    split
    · split
      · refine ⟨?_, fun i hi => ?_, ?_, ?_⟩
        · simp (disch := omega) only [up2_c, and_self]
        · simp (disch := omega) only [up2_n, and_self]
        · simp (disch := omega) only [up2_n]
        · simp (disch := omega) only [up2_n]
      · refine ⟨?_, fun i hi => ?_, ?_, ?_⟩
        · simp (disch := omega) only [up2_c, and_self]
        · simp (disch := omega) only [up2_n, and_self]
        · simp (disch := omega) only [up2_n]
        · simp (disch := omega) only [up2_n]
    · refine ⟨?_, fun i hi => ?_, ?_, ?_⟩
      · simp (disch := omega) only [up2_c, and_self]
      · simp (disch := omega) only [up2_n, and_self]
      · simp (disch := omega) only [up2_n]
      · simp (disch := omega) only [up2_n]
theorem mna10 : ∀ a : Fin 10, (9 : Int32) ≤ nI a.val ∧ mna (nI a.val) = nI a.val ∨ ¬ (9 : Int32) ≤ nI a.val ∧ mna (nI a.val) = nI a.val + 1 := by decide +kernel
theorem mxa10 : ∀ a : Fin 10, nI a.val ≤ 0 ∧ mxa (nI a.val) = nI a.val ∨ ¬ nI a.val ≤ 0 ∧ mxa (nI a.val) = nI a.val - 1 := by decide +kernel
theorem wrk_s {N G n : Nat} {u b : S2} {f3 : Nat → Int32} (r : SR N G u b) (v : Iv N G b) (k : Rg N b) {g : Nat} (hg : g < G) (hf3 : f3 g = if b 9 g = -1 then 1 else 0) : ∃ u', X2_pass_L143 G f3 (n + 1) (nI g) u = X2_pass_L143 G f3 n (nI (g + 1)) u' ∧ SR N G u' (wrk N b g) := by
  have hN := v.1.1
  have hG := v.1.2.1
  have hT := SR_T r hN
  have hGu := SR_G r hG
  obtain ⟨p8, p9, p10⟩ := r.2.1 g hg
  obtain ⟨⟨a, ha, ea⟩, hw⟩ := v.2.1.1 g hg
  rw [X2_pass_L143, hGu, if_neg (nI_ge hg (by omega)), inG_n hGu hg hG, bd1_some, ldA_n hg (by omega), bd1_some, hf3, nI_clamp (by omega), nI_1]
  unfold wrk
  by_cases h9 : b 9 g = -1
  · rw [if_pos h9, if_pos h9, if_neg (by decide), next_s r hN, bd1_some]
    rcases fa_cases (b 5) N 0 with ⟨f1, f2⟩ | ⟨i, f1, f2, f3', f4⟩
    · rw [f1, if_neg (by decide), if_pos rfl, ldG_0 hGu hg, bd1_some, p8, ea]
      rcases mna10 ⟨a, by omega⟩ with ⟨m1, m2⟩ | ⟨m1, m2⟩
      · simp only at m1 m2
        rw [if_pos m1, m2, ← ea, up2_id]
        exact ⟨u, rfl, r⟩
      · simp only at m1 m2
        rw [if_neg m1, m2, bd1_some, stG_0 hGu hg, bd1_some]
        exact ⟨_, rfl, SR_up r (by omega) (by omega)⟩
    · have hi : i < N := by omega
      have r1 : SR N G (up2 u 9 g (nI i)) (up2 b 9 g (nI i)) := SR_up r (by omega) (by omega)
      have t1 : nT (up2 u 9 g (nI i)) = N := by rw [nT_up (by omega)]; exact hT
      have g1 : nG (up2 u 9 g (nI i)) = G := by rw [nG_up (by omega)]; exact hGu
      have es : (2 + u 2 i) + (la (b 5) (b 3) N 0 0 / 4) = stime N b i := by
        unfold stime
        rw [(r.2.2 i hi).2.1]
      rw [f4, if_pos (nI_pos' (by omega)), if_neg (nI_m1 i (by omega)), nI_clamp (by omega), stG_1 hGu hg, bd1_some, inT_n t1 hi hN, bd1_some, ldT_1 t1 hi, bd1_some, noise_s r1 hN, bd1_some, stG_2 g1 hg, bd1_some, inT_n (N := N) (by rw [nT_up (by omega)]; exact t1) hi hN, bd1_some, stT_4 (M := N) (by rw [nT_up (by omega)]; exact t1) hi, bd1_some, up2_c (show (5 : Nat) ≠ 9 by omega), up2_c (show (3 : Nat) ≠ 9 by omega), up2_n (b := u) (k' := 2) (by omega), es]
      unfold beg
      exact ⟨_, rfl, SR_up (SR_up r1 (by omega) (by omega)) (by omega) (fun _ z => absurd z (by decide))⟩
  · rcases hw with q | ⟨t, q1, q2, q3⟩
    · exact absurd q h9
    · rw [if_neg h9, if_neg h9, if_pos rfl, q2, nI_clamp (by omega), ldG_2 hGu hg, bd1_some, stG_2 hGu hg, bd1_some, ldG_2 (M := G) (by rw [nG_up (by omega)]; exact hGu) hg, bd1_some, up2_e (by omega), p10]
      have r1 : SR N G (up2 u 10 g (b 10 g - 1)) (up2 b 10 g (b 10 g - 1)) := SR_up r (by omega) (by omega)
      have t1 : nT (up2 u 10 g (b 10 g - 1)) = N := by rw [nT_up (by omega)]; exact hT
      have g1 : nG (up2 u 10 g (b 10 g - 1)) = G := by rw [nG_up (by omega)]; exact hGu
      unfold son
      by_cases hl : b 10 g - 1 ≤ 0
      · have ef : fnd (up2 b 10 g (b 10 g - 1)) g t = fnd b g t := by
          unfold fnd
          rw [up2_c (by omega), up2_c (by omega), up2_c (by omega)]
        have e9 : up2 u 10 g (b 10 g - 1) 9 g = nI t := by rw [up2_n (by omega), p9, q2]
        have k1 : Rg N (up2 b 10 g (b 10 g - 1)) := Rg_cg k (up2_c (by omega)) (up2_c (by omega)) (up2_c (by omega))
        have tail : ∀ (w c : S2), SR N G w c → (∀ x, c 8 x = b 8 x) → ∃ u', (bd1 (stG w g 1 (-1)) fun u_29 => bd1 (ldG u_29 g 0) fun x31 => (if x31 ≤ 0 then X2_pass_L143 G f3 n (nI (g + 1)) u_29 else bd1 (ldG u_29 g 0) fun x34 => bd1 (stG u_29 g 0 (x34 - 1)) fun u_36 => X2_pass_L143 G f3 n (nI (g + 1)) u_36)) = X2_pass_L143 G f3 n (nI (g + 1)) u' ∧ SR N G u' (up2 (up2 c 9 g (-1)) 8 g (mxa (b 8 g))) := by
          intro w c rw' c8
          have tw := SR_T rw' hN
          have gw := SR_G rw' hG
          have gw1 : nG (up2 w 9 g (-1)) = G := by rw [nG_up (by omega)]; exact gw
          have r2 : SR N G (up2 w 9 g (-1)) (up2 c 9 g (-1)) := SR_up rw' (by omega) (by omega)
          have e8 : up2 w 9 g (-1) 8 g = nI a := by rw [up2_n (by omega), (rw'.2.1 g hg).1, c8, ea]
          have e8' : up2 c 9 g (-1) 8 g = nI a := by rw [up2_n (by omega), c8, ea]
          rw [stG_1 gw hg, bd1_some, ldG_0 gw1 hg, bd1_some, e8, ea]
          rcases mxa10 ⟨a, by omega⟩ with ⟨m1, m2⟩ | ⟨m1, m2⟩
          · simp only at m1 m2
            rw [if_pos m1, m2, ← e8', up2_id]
            exact ⟨_, rfl, r2⟩
          · simp only at m1 m2
            rw [if_neg m1, m2, bd1_some, stG_0 gw1 hg, bd1_some]
            exact ⟨_, rfl, SR_up r2 (by omega) (by omega)⟩
        rw [if_pos hl, if_pos hl, ldG_1 g1 hg, bd1_some, e9, inT_n t1 q1 hN, bd1_some, nI_clamp (by omega), finds_s r1 hN hG k1 hg q1 ⟨a, ha, by rw [up2_n (by omega)]; exact ea⟩, bd1_some, ef]
        dsimp only [jo1]
        by_cases hf : fnd b g t = 0
        · rw [if_pos hf, if_pos hf, stT_4 t1 q1, bd1_some, stT_5 (M := N) (by rw [nT_up (by omega)]; exact t1) q1, bd1_some]
          exact tail _ _ (SR_56 r1) (fun x => by simp (disch := omega) only [up2_n])
        · have ex : up2 u 10 g (b 10 g - 1) 0 2 = b 0 2 := by rw [up2_n (by omega)]; exact r.1.2.2.1
          rw [if_neg hf, if_neg hf, hidden_s r1 hN k1 q1, bd1_some, bd1_some, ex, up2_c (show (1 : Nat) ≠ 10 by omega), up2_c (show (2 : Nat) ≠ 10 by omega), stT_4 (M := N) (by rw [nT_up (by omega)]; exact t1) q1, bd1_some]
          exact tail _ _ (SR_up (SR_up r1 (by omega) (by omega)) (by omega) (fun _ z => absurd z (by decide))) (fun x => by simp (disch := omega) only [up2_n])
      · rw [if_neg hl, if_neg hl]
        exact ⟨_, rfl, r1⟩
theorem L143_s {N G : Nat} {f3 : Nat → Int32} : ∀ (m n g : Nat) (u b : S2), SR N G u b → Iv N G b → Rg N b → g + m = G → m < n → (∀ i, g ≤ i → i < G → f3 i = if b 9 i = -1 then 1 else 0) → ∃ u', X2_pass_L143 G f3 n (nI g) u = some u' ∧ SR N G u' (up2 (itn (wrk N) m g b) 0 0 ((itn (wrk N) m g b) 0 0 + 1)) := by
  intro m
  induction m with
  | zero =>
    intro n g u b r v k hg hn hf
    obtain ⟨n, rfl⟩ := pos_fuel hn
    have hG := v.1.2.1
    rw [X2_pass_L143, SR_G r hG, if_pos (nI_le (by omega) (by omega)), bd1_some, r.1.1]
    exact ⟨_, rfl, SR_up r (by omega) (by omega)⟩
  | succ m ih =>
    intro n g u b r v k hg hn hf
    obtain ⟨n, rfl⟩ := pos_fuel hn
    obtain ⟨u1, e1, r1⟩ := wrk_s (n := n) r v k (g := g) (by omega) (hf g (by omega) (by omega))
    obtain ⟨⟨c1, c2, c3, c4⟩, c9, -⟩ := wrk_c v (g := g) (by omega)
    rw [e1]
    exact ih n (g + 1) u1 _ r1 (wrk_iv v (by omega)) (Rg_cg k c1 c2 c3) (by omega) (by omega) (fun i h1 h2 => by
      rw [(c9 i (by omega)).2.1]
      exact hf i (by omega) h2)
theorem cmb_c {b : S2} (t : Nat) : (cmb b t 1 = b 1 ∧ cmb b t 2 = b 2 ∧ cmb b t 3 = b 3) ∧ (cmb b t 8 = b 8 ∧ cmb b t 9 = b 9 ∧ cmb b t 10 = b 10) ∧ cmb b t 0 0 = b 0 0 ∧ cmb b t 0 2 = b 0 2 := by
  by_cases h2 : b 5 t = 2
  · rw [cmb_2 h2]
    split
    · simp (disch := omega) only [up2_c, up2_n, and_self]
    · simp (disch := omega) only [up2_c, up2_n, and_self]
  · by_cases h0 : b 5 t = 0
    · rw [cmb_0 h0]
      split
      · simp (disch := omega) only [up2_c, up2_n, and_self]
      · simp (disch := omega) only [up2_c, up2_n, and_self]
    · rw [cmb_n h0 h2]
      exact ⟨⟨rfl, rfl, rfl⟩, ⟨rfl, rfl, rfl⟩, rfl, rfl⟩
theorem itn_cmb_c : ∀ (m t : Nat) (b : S2), (itn cmb m t b 1 = b 1 ∧ itn cmb m t b 2 = b 2 ∧ itn cmb m t b 3 = b 3) ∧ (itn cmb m t b 8 = b 8 ∧ itn cmb m t b 9 = b 9 ∧ itn cmb m t b 10 = b 10) ∧ itn cmb m t b 0 0 = b 0 0 ∧ itn cmb m t b 0 2 = b 0 2 := by
  intro m
  induction m with
  | zero => intro t b; exact ⟨⟨rfl, rfl, rfl⟩, ⟨rfl, rfl, rfl⟩, rfl, rfl⟩
  | succ m ih =>
    intro t b
    obtain ⟨⟨a1, a2, a3⟩, ⟨a4, a5, a6⟩, a7, a8⟩ := ih (t + 1) (cmb b t)
    obtain ⟨⟨c1, c2, c3⟩, ⟨c4, c5, c6⟩, c7, c8⟩ := cmb_c (b := b) t
    exact ⟨⟨a1.trans c1, a2.trans c2, a3.trans c3⟩, ⟨a4.trans c4, a5.trans c5, a6.trans c6⟩, a7.trans c7, a8.trans c8⟩
theorem pass_s {N G : Nat} {u b : S2} (r : SR N G u b) (v : Iv N G b) (k : Rg N b) (lw : Lw N b) : ∃ u', X2_pass u = some u' ∧ SR N G u' (mn N G b) := by
  have hN := v.1.1
  have hG := v.1.2.1
  unfold X2_pass
  have hl : len 8 (nI G) = some G := by
    unfold len
    rw [nI_clamp (by omega), if_neg (not_or.mpr ⟨nI_pos (by omega), by omega⟩)]
  rw [SR_G r hG, hl, bd1_some]
  obtain ⟨f, e1, hf⟩ := L10_s r v G 200 0 (fun _ => 0) (by omega) (by omega) (fun i hi => absurd hi (by omega))
  refine (?_ : ∃ u', X2_pass_L10 G u 200 0 (fun _ => 0) = some u' ∧ SR N G u' (mn N G b))
  have e1 : X2_pass_L10 G u 200 0 (fun _ => 0) = X2_pass_L55 G (nI (nT u)) f 200 0 u := e1
  rw [e1, SR_T r hN]
  obtain ⟨u1, e2, r1⟩ := L55_s (n2 := G) (f3 := f) N 200 0 u b r v lw (by omega) (by omega)
  have e2 : X2_pass_L55 G (nI N) f 200 0 u = X2_pass_L143 G f 200 0 u1 := e2
  rw [e2]
  have v1 : Iv N G (itn cmb N 0 b) := itn_iv (fun b g hg hb => cmb_iv hb hg) N 0 _ (by omega) v
  obtain ⟨⟨c1, c2, c3⟩, ⟨-, c9, -⟩, -, -⟩ := itn_cmb_c N 0 b
  obtain ⟨u2, e3, r2⟩ := L143_s (f3 := f) G 200 0 u1 _ r1 v1 (Rg_cg k c1 c2 c3) (by omega) (by omega) (fun i _ h2 => by rw [c9]; exact hf i h2)
  have e3 : X2_pass_L143 G f 200 0 u1 = some u2 := e3
  rw [e3, mn_cmb]
  exact ⟨u2, rfl, r2⟩
