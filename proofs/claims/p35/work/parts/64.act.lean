/-! PURE 64: what a number chooses, done to both -/
theorem jo0_e {γ : Type} {P : Option γ → Prop} {K0 : Option γ} {F : Option γ → Option γ} (h1 : P K0) (h2 : ∀ K, P K → P (F K)) : P (jo0 K0 F) := h2 K0 h1
theorem jo1_e {α γ : Type} {P : Option γ → Prop} {S : α → Prop} {K0 : α → Option γ} {F : (α → Option γ) → Option γ} (h1 : ∀ x, S x → P (K0 x)) (h2 : ∀ K : α → Option γ, (∀ x, S x → P (K x)) → P (F K)) : P (jo1 K0 F) := h2 K0 h1
theorem bz2_r {α β γ : Type} (x : α) (y : β) (K : α → β → Option γ) : bz2 (some (.inr (x, y))) K = K x y := rfl
theorem bz1_r {α γ : Type} (x : α) (K : α → Option γ) : bz1 (some (.inr x)) K = K x := rfl
theorem below_n (a : Int32) {d : Nat} (h0 : 0 < d) (hd : d < 2 ^ 31) : ∃ j, j < d ∧ L_below a (nI d) = some (nI j) := by
  obtain ⟨k, k1, k2⟩ := pk_andE a (m := 2147483647) 31 (by decide)
  refine ⟨k % d, Nat.mod_lt _ h0, ?_⟩
  unfold L_below nz
  rw [if_neg (nI_ne0 h0 hd), bd1_some, k2, pk_rem (by omega) h0 hd]
theorem stF_i {f : Nat → Int32} {n : Nat} {v : Int32} (i : Int32) (k : Nat) (h : i.toNatClampNeg = k) (h2 : ¬ (i < 0 ∨ n ≤ i.toNatClampNeg)) : stF f n i v = some (upd f k v) := by
  unfold stF
  rw [if_neg h2, h]
theorem Iv_cg {N G : Nat} {b c : S2} (v : Iv N G b) (e3 : c 0 3 = b 0 3) (e4 : c 0 4 = b 0 4) (e5 : c 5 = b 5) (e6 : c 6 = b 6) (e8 : c 8 = b 8) (e9 : c 9 = b 9) : Iv N G c := by
  obtain ⟨⟨h1, h2, h3, h4⟩, ⟨g1, g2⟩, tr⟩ := v
  refine ⟨⟨h1, h2, by rw [e3]; exact h3, by rw [e4]; exact h4⟩, ⟨?_, ?_⟩, ?_⟩
  · rw [e5, e8, e9]; exact g1
  · rw [e9]; exact g2
  · rw [e5, e6]; exact tr
/-! arguments that are in range -/
theorem dig_1 {k : Nat} (h : k ≤ 9) : X1_requireDigit (nI k) = some (.inr ()) := by
  have : ∀ k : Fin 10, X1_requireDigit (nI k.val) = some (.inr ()) := by
    intro k
    unfold X1_requireDigit
    revert k
    decide +kernel
  exact this ⟨k, by omega⟩
theorem mins_1 {k : Nat} (h1 : 1 ≤ k) (h : k ≤ 60) : X1_requireMinutes (nI k) = some (.inr ()) := by
  have : ∀ k : Fin 60, X1_requireMinutes (nI (k.val + 1)) = some (.inr ()) := by
    intro k
    unfold X1_requireMinutes
    revert k
    decide +kernel
  have := this ⟨k - 1, by omega⟩
  simpa only [Nat.sub_add_cancel h1] using this
theorem isG_1 {b : S2} {G g : Nat} (hG : b 0 4 = nI G) (hG' : G ≤ 8) (hg : g < G) : X0_isGuard b (nI g) = some 1 := by
  unfold X0_isGuard
  rw [if_neg (nI_pos (by omega)), hG, if_neg (nI_ge hg (by omega))]
/-! one guard more -/
theorem gd_up {N G : Nat} {b : S2} (v : Jv N G b) (hG : G < 4) : Jv N (G + 1) (up2 (up2 (up2 (up2 b 8 G 9) 9 G (-1)) 10 G 0) 0 4 (nI (G + 1))) := by
  obtain ⟨⟨⟨h1, h2, h3, h4⟩, ⟨g1, g2⟩, tr⟩, -, k, ls, gl, cv, ex⟩ := v
  generalize hc : up2 (up2 (up2 (up2 b 8 G 9) 9 G (-1)) 10 G 0) 0 4 (nI (G + 1)) = c
  have c5 : c 5 = b 5 := by rw [← hc]; simp (disch := omega) only [up2_c]
  have c6 : c 6 = b 6 := by rw [← hc]; simp (disch := omega) only [up2_c]
  have c4 : c 4 = b 4 := by rw [← hc]; simp (disch := omega) only [up2_c]
  have c1 : c 1 = b 1 := by rw [← hc]; simp (disch := omega) only [up2_c]
  have c2 : c 2 = b 2 := by rw [← hc]; simp (disch := omega) only [up2_c]
  have c3 : c 3 = b 3 := by rw [← hc]; simp (disch := omega) only [up2_c]
  have o8 : ∀ i, i ≠ G → c 8 i = b 8 i := fun i hi => by rw [← hc]; simp (disch := omega) only [up2_n]
  have o9 : ∀ i, i ≠ G → c 9 i = b 9 i := fun i hi => by rw [← hc]; simp (disch := omega) only [up2_n]
  have o10 : ∀ i, i ≠ G → c 10 i = b 10 i := fun i hi => by rw [← hc]; simp (disch := omega) only [up2_n]
  have m8 : c 8 G = nI 9 := by rw [← hc]; simp (disch := omega) only [up2_e, up2_n]; rfl
  have m9 : c 9 G = -1 := by rw [← hc]; simp (disch := omega) only [up2_e, up2_n]
  have m10 : c 10 G = 0 := by rw [← hc]; simp (disch := omega) only [up2_e, up2_n]
  have e03 : c 0 3 = b 0 3 := by rw [← hc]; simp (disch := omega) only [up2_n]
  have e01 : c 0 1 = b 0 1 := by rw [← hc]; simp (disch := omega) only [up2_n]
  have e04 : c 0 4 = nI (G + 1) := by rw [← hc]; exact up2_e ⟨rfl, rfl⟩
  refine ⟨⟨⟨h1, by omega, by rw [e03]; exact h3, e04⟩, ⟨fun g hg => ?_, fun g g' t hg hg' ht q q' => ?_⟩, ?_⟩, by omega, Rg_cg k c1 c2 c3, ?_, fun i hi => ?_, fun s hs h => ?_, ?_⟩
  · by_cases e : g = G
    · subst e
      exact ⟨⟨9, by omega, m8⟩, Or.inl m9⟩
    · rw [o8 g e, o9 g e, c5]
      exact g1 g (by omega)
  · have n1 : g ≠ G := fun e => by rw [e, m9] at q; exact nI_m1 t (by omega) q.symm
    have n2 : g' ≠ G := fun e => by rw [e, m9] at q'; exact nI_m1 t (by omega) q'.symm
    rw [o9 g n1] at q
    rw [o9 g' n2] at q'
    exact g2 g g' t (by omega) (by omega) ht q q'
  · rw [c5, c6]; exact tr
  · unfold Ls
    rw [c4, c5]; exact ls
  · by_cases e : i = G
    · subst e
      exact Or.inl ⟨m9, m10⟩
    · rw [o9 i e, o10 i e]
      exact gl i (by omega)
  · rw [c5] at h
    obtain ⟨i, i1, i2⟩ := cv s hs h
    exact ⟨i, by omega, by rw [o9 i (by omega)]; exact i2⟩
  · unfold Ex
    rw [c5, e01]; exact ex
theorem gd_sr {N G : Nat} {u b : S2} (r : SR N G u b) (hG : G < 4) : SR N (G + 1) (up2 (up2 (up2 (up2 u 8 G 9) 9 G (-1)) 10 G 0) 0 4 (nI (G + 1))) (up2 (up2 (up2 (up2 b 8 G 9) 9 G (-1)) 10 G 0) 0 4 (nI (G + 1))) := by
  have e : ∀ x y, (u x y = b x y ∨ (x = 8 ∨ x = 9 ∨ x = 10) ∧ y = G) → up2 (up2 (up2 (up2 u 8 G 9) 9 G (-1)) 10 G 0) 0 4 (nI (G + 1)) x y = up2 (up2 (up2 (up2 b 8 G 9) 9 G (-1)) 10 G 0) 0 4 (nI (G + 1)) x y := by
    intro x y h
    rcases h with h | ⟨h | h | h, h'⟩
    · rw [up2_v, up2_v, up2_v, up2_v, up2_v, up2_v, up2_v, up2_v, h]
    · subst h; subst h'; simp (disch := omega) only [up2_e, up2_n]
    · subst h; subst h'; simp (disch := omega) only [up2_e, up2_n]
    · subst h; subst h'; simp (disch := omega) only [up2_e, up2_n]
  obtain ⟨⟨s0, s1, s2, s3, s4⟩, hg, ht⟩ := r
  refine ⟨⟨e 0 0 (Or.inl s0), e 0 1 (Or.inl s1), e 0 2 (Or.inl s2), ?_, up2_e ⟨rfl, rfl⟩⟩, fun g q => ?_, fun t q => ?_⟩
  · simp (disch := omega) only [up2_n]
    exact s3
  · by_cases eg : g = G
    · exact ⟨e 8 g (Or.inr ⟨by omega, eg⟩), e 9 g (Or.inr ⟨by omega, eg⟩), e 10 g (Or.inr ⟨by omega, eg⟩)⟩
    · obtain ⟨a1, a2, a3⟩ := hg g (by omega)
      exact ⟨e _ _ (Or.inl a1), e _ _ (Or.inl a2), e _ _ (Or.inl a3)⟩
  · obtain ⟨a1, a2, a3, a4, a5, a6⟩ := ht t q
    refine ⟨e _ _ (Or.inl a1), e _ _ (Or.inl a2), e _ _ (Or.inl a3), e _ _ (Or.inl a4), e _ _ (Or.inl a5), fun h => ?_⟩
    simp (disch := omega) only [up2_n] at h ⊢
    exact a6 h
theorem addGuard_e {N G : Nat} {b b2 : S2} (v : Jv N G b) (hG : G < 4) : X1_addGuard b b2 = some (.inr (nI G, up2 (up2 (up2 (up2 b 8 G 9) 9 G (-1)) 10 G 0) 0 4 (nI (G + 1)))) := by
  have h4 := v.1.1.2.2.2
  have l4 : nI G < 4 := nI_lt (b := 4) hG (by omega)
  have l8 : nI G < 8 := nI_lt (b := 8) (by omega) (by omega)
  unfold X1_addGuard X0_admitGuard
  rw [h4, if_pos l4, if_pos l8, stA_n (by omega) (by omega), bd1_some, up2_n (k' := 0) (by omega), h4, stA_n (by omega) (by omega), bd1_some, up2_n (k' := 0) (by omega), up2_n (k' := 0) (by omega), h4, stA_n (by omega) (by omega), bd1_some, bd1_some, bd1_some]
  simp (disch := omega) only [up2_n, up2_e]
  rw [h4, nI_1, nI_pred]
theorem addG_e {N G : Nat} {u b b2 : S2} (r : SR N G u b) (v : Jv N G b) (hG : G < 4) : ∃ u' b', addG u (upd (upd (upd (fun _ => 0) 0 9) 1 (-1)) 2 0) = some u' ∧ X1_addGuard b b2 = some (.inr (nI G, b')) ∧ SR N (G + 1) u' b' ∧ Jv N (G + 1) b' := by
  refine ⟨_, _, ?_, addGuard_e v hG, gd_sr r hG, gd_up v hG⟩
  unfold addG
  rw [SR_G r (by omega), if_neg (by omega)]
  rfl
/-! one traveller more -/
theorem tr_up {N G d e s l : Nat} {b : S2} (v : Jv N G b) (hN : N < 24) (hd : d ≤ 9) (he : e ≤ 9) (hs : s ≤ 9) (hl : 1 ≤ l) (hl' : l ≤ 60) : Jv (N + 1) G (up2 (up2 (up2 (up2 (up2 (up2 b 1 N (nI d)) 2 N (nI e)) 3 N (nI s)) 4 N (nI l)) 5 N 0) 0 3 (nI (N + 1))) := by
  obtain ⟨⟨⟨h1, h2, h3, h4⟩, ⟨g1, g2⟩, tr⟩, hG, k, ls, gl, cv, ⟨x, x1, x2⟩⟩ := v
  generalize hc : up2 (up2 (up2 (up2 (up2 (up2 b 1 N (nI d)) 2 N (nI e)) 3 N (nI s)) 4 N (nI l)) 5 N 0) 0 3 (nI (N + 1)) = c
  have o : ∀ i t, i ≠ 0 → t ≠ N → c i t = b i t := fun i t hi ht => by rw [← hc]; simp (disch := omega) only [up2_n]
  have c6 : c 6 = b 6 := by rw [← hc]; simp (disch := omega) only [up2_c]
  have c8 : c 8 = b 8 := by rw [← hc]; simp (disch := omega) only [up2_c]
  have c9 : c 9 = b 9 := by rw [← hc]; simp (disch := omega) only [up2_c]
  have c10 : c 10 = b 10 := by rw [← hc]; simp (disch := omega) only [up2_c]
  have m1 : c 1 N = nI d := by rw [← hc]; simp (disch := omega) only [up2_e, up2_n]
  have m2 : c 2 N = nI e := by rw [← hc]; simp (disch := omega) only [up2_e, up2_n]
  have m3 : c 3 N = nI s := by rw [← hc]; simp (disch := omega) only [up2_e, up2_n]
  have m4 : c 4 N = nI l := by rw [← hc]; simp (disch := omega) only [up2_e, up2_n]
  have m5 : c 5 N = 0 := by rw [← hc]; simp (disch := omega) only [up2_e, up2_n]
  have e03 : c 0 3 = nI (N + 1) := by rw [← hc]; exact up2_e ⟨rfl, rfl⟩
  have e04 : c 0 4 = b 0 4 := by rw [← hc]; simp (disch := omega) only [up2_n]
  have e01 : c 0 1 = b 0 1 := by rw [← hc]; simp (disch := omega) only [up2_n]
  refine ⟨⟨⟨by omega, h2, e03, by rw [e04]; exact h4⟩, ⟨fun g hg => ?_, fun g g' t hg hg' ht q q' => ?_⟩, fun t ht q => ?_⟩, hG, fun t ht => ?_, fun t ht => ?_, ?_, fun t ht q => ?_, ?_⟩
  · rw [c8, c9]
    refine ⟨(g1 g hg).1, ?_⟩
    rcases (g1 g hg).2 with q | ⟨t, q1, q2, q3⟩
    · exact Or.inl q
    · exact Or.inr ⟨t, by omega, q2, by rw [o 5 t (by omega) (by omega)]; exact q3⟩
  · rw [c9] at q q'
    rcases (g1 g hg).2 with z | ⟨t', z1, z2, z3⟩
    · rw [z] at q; exact absurd q.symm (nI_m1 t (by omega))
    · have := nI_inj (by omega) (by omega) (z2.symm.trans q)
      exact g2 g g' t hg hg' (by omega) q q'
  · by_cases e : t = N
    · subst e
      rw [m5] at q; exact absurd q (by decide)
    · rw [o 5 t (by omega) e] at q
      rw [c6]
      exact tr t (by omega) q
  · by_cases e : t = N
    · subst e
      exact ⟨⟨d, hd, m1⟩, ⟨_, he, m2⟩, ⟨s, hs, m3⟩⟩
    · rw [o 1 t (by omega) e, o 2 t (by omega) e, o 3 t (by omega) e]
      exact k t (by omega)
  · by_cases e : t = N
    · subst e
      exact ⟨⟨l, hl', m4, fun _ => hl⟩, Or.inl m5⟩
    · rw [o 4 t (by omega) e, o 5 t (by omega) e]
      exact ls t (by omega)
  · unfold GL
    rw [c9, c10]; exact gl
  · by_cases e : t = N
    · subst e
      rw [m5] at q; exact absurd q (by decide)
    · rw [o 5 t (by omega) e] at q
      rw [c9]
      exact cv t (by omega) q
  · refine ⟨x, by rw [e01]; exact x1, Nat.le_trans x2 ?_⟩
    show _ ≤ smn (sN (c 5) 4) N + _
    rw [smn_cg (f := sN (c 5) 4) (g := sN (b 5) 4) N (fun i hi => by show (if c 5 i = 4 then 1 else 0) = (if b 5 i = 4 then 1 else 0); rw [o 5 i (by omega) (by omega)])]
    exact Nat.le_add_right _ _
theorem tr_sr {N G : Nat} {u b : S2} {d e s l : Int32} (r : SR N G u b) (hN : N < 24) : SR (N + 1) G (up2 (up2 (up2 (up2 (up2 (up2 (up2 u 1 N d) 2 N e) 3 N s) 4 N l) 5 N 0) 6 N 0) 0 3 (nI (N + 1))) (up2 (up2 (up2 (up2 (up2 (up2 b 1 N d) 2 N e) 3 N s) 4 N l) 5 N 0) 0 3 (nI (N + 1))) := by
  obtain ⟨⟨s0, s1, s2, s3, s4⟩, hg, ht⟩ := r
  refine ⟨⟨?_, ?_, ?_, up2_e ⟨rfl, rfl⟩, ?_⟩, fun g q => ?_, fun t q => ?_⟩
  · simp (disch := omega) only [up2_n]; exact s0
  · simp (disch := omega) only [up2_n]; exact s1
  · simp (disch := omega) only [up2_n]; exact s2
  · simp (disch := omega) only [up2_n]; exact s4
  · simp (disch := omega) only [up2_n]; exact hg g q
  · by_cases e' : t = N
    · subst e'
      refine ⟨?_, ?_, ?_, ?_, ?_, fun h => ?_⟩
      · simp (disch := omega) only [up2_e, up2_n]
      · simp (disch := omega) only [up2_e, up2_n]
      · simp (disch := omega) only [up2_e, up2_n]
      · simp (disch := omega) only [up2_e, up2_n]
      · simp (disch := omega) only [up2_e, up2_n]
      · simp (disch := omega) only [up2_e, up2_n] at h
        exact absurd h (by decide)
    · simp (disch := omega) only [up2_n]
      exact ht t (by omega)
theorem arrive_e {N G d e s l : Nat} {b b2 : S2} (v : Jv N G b) (hN : N < 24) (hd : d ≤ 9) (he : e ≤ 9) (hs : s ≤ 9) (hl : 1 ≤ l) (hl' : l ≤ 60) : X1_arrive b b2 (nI d) (nI e) (nI s) (nI l) = some (.inr (nI N, up2 (up2 (up2 (up2 (up2 (up2 b 1 N (nI d)) 2 N (nI e)) 3 N (nI s)) 4 N (nI l)) 5 N 0) 0 3 (nI (N + 1)))) := by
  have h3 := v.1.1.2.2.1
  have l24 : nI N < 24 := nI_lt (b := 24) hN (by omega)
  unfold X1_arrive X0_admitTraveller
  rw [dig_1 hd, bx0_r, dig_1 he, bx0_r, dig_1 hs, bx0_r, mins_1 hl hl', bx0_r, h3, if_pos l24, if_pos l24, stA_n (by omega) (by omega), bd1_some, up2_n (k' := 0) (by omega), h3, stA_n (by omega) (by omega), bd1_some, up2_n (k' := 0) (by omega), up2_n (k' := 0) (by omega), h3, stA_n (by omega) (by omega), bd1_some]
  simp (disch := omega) only [up2_n]
  rw [h3, stA_n (by omega) (by omega), bd1_some]
  simp (disch := omega) only [up2_n]
  rw [h3, stA_n (by omega) (by omega), bd1_some, bd1_some, bd1_some]
  simp (disch := omega) only [up2_n, up2_e]
  rw [h3, nI_1, nI_pred]
/-! the four that change a number -/
theorem Jv_2 {N G t k : Nat} {b : S2} (v : Jv N G b) (hk : k ≤ 9) : Jv N G (up2 b 2 t (nI k)) := by
  obtain ⟨h1, hG, kk, ls, gl, cv, ex⟩ := v
  refine ⟨Iv_cg h1 (up2_n (by omega)) (up2_n (by omega)) (up2_c (by omega)) (up2_c (by omega)) (up2_c (by omega)) (up2_c (by omega)), hG, fun s hs => ?_, ?_, ?_, ?_, ?_⟩
  · rw [up2_c (k' := 1) (by omega), up2_c (k' := 3) (by omega)]
    obtain ⟨a1, a2, a3⟩ := kk s hs
    refine ⟨a1, ?_, a3⟩
    by_cases e : s = t
    · subst e
      exact ⟨k, hk, up2_e ⟨rfl, rfl⟩⟩
    · rw [up2_n (by omega)]
      exact a2
  · unfold Ls
    rw [up2_c (by omega), up2_c (by omega)]; exact ls
  · unfold GL
    rw [up2_c (by omega), up2_c (by omega)]; exact gl
  · unfold CV
    rw [up2_c (by omega), up2_c (by omega)]; exact cv
  · unfold Ex
    rw [up2_c (k' := 5) (by omega), up2_n (by omega)]; exact ex
theorem Jv_4 {N G t k : Nat} {b : S2} (v : Jv N G b) (h1k : 1 ≤ k) (hk : k ≤ 60) : Jv N G (up2 b 4 t (nI k)) := by
  obtain ⟨h1, hG, kk, ls, gl, cv, ex⟩ := v
  refine ⟨Iv_cg h1 (up2_n (by omega)) (up2_n (by omega)) (up2_c (by omega)) (up2_c (by omega)) (up2_c (by omega)) (up2_c (by omega)), hG, ?_, fun s hs => ?_, ?_, ?_, ?_⟩
  · exact Rg_cg kk (up2_c (by omega)) (up2_c (by omega)) (up2_c (by omega))
  · rw [up2_c (k' := 5) (by omega)]
    obtain ⟨a1, a2⟩ := ls s hs
    refine ⟨?_, a2⟩
    by_cases e : s = t
    · subst e
      exact ⟨k, hk, up2_e ⟨rfl, rfl⟩, fun _ => h1k⟩
    · rw [up2_n (by omega)]
      exact a1
  · unfold GL
    rw [up2_c (by omega), up2_c (by omega)]; exact gl
  · unfold CV
    rw [up2_c (by omega), up2_c (by omega)]; exact cv
  · unfold Ex
    rw [up2_c (k' := 5) (by omega), up2_n (by omega)]; exact ex
theorem Jv_8 {N G g k : Nat} {b : S2} (v : Jv N G b) (hg : g < G) (hk : k ≤ 9) : Jv N G (up2 b 8 g (nI k)) := by
  obtain ⟨h1, hG, kk, ls, gl, cv, ex⟩ := v
  refine ⟨alr_iv h1 hg ⟨k, hk, rfl⟩, hG, Rg_cg kk (up2_c (by omega)) (up2_c (by omega)) (up2_c (by omega)), ?_, ?_, ?_, ?_⟩
  · unfold Ls
    rw [up2_c (by omega), up2_c (by omega)]; exact ls
  · unfold GL
    rw [up2_c (by omega), up2_c (by omega)]; exact gl
  · unfold CV
    rw [up2_c (by omega), up2_c (by omega)]; exact cv
  · unfold Ex
    rw [up2_c (k' := 5) (by omega), up2_n (by omega)]; exact ex
theorem waits_1 {b b2 : S2} {t : Nat} (ht : t < 24) (h : b 5 t = 0) : X1_requireWaiting b b2 (nI t) = some (.inr ()) := by
  unfold X1_requireWaiting
  rw [ldA_n ht (by omega), bd1_some, h]
  rfl
theorem declare_e {N G t k : Nat} {b b2 : S2} (v : Jv N G b) (ht : t < N) (h0 : b 5 t = 0) (hk : k ≤ 9) : X1_declare b b2 (nI t) (nI k) = some (.inr (b 2 t, up2 b 2 t (nI k))) := by
  have hN := v.1.1.1
  unfold X1_declare
  rw [reqT_1 (isT_1 v.1.1.2.2.1 hN ht), bx0_r, dig_1 hk, bx0_r, waits_1 (by omega) h0, bx0_r, ldA_n (by omega) (by omega), bd1_some, stA_n (by omega) (by omega), bd1_some]
theorem sing_e {N G t k : Nat} {b b2 : S2} (v : Jv N G b) (ht : t < N) (h0 : b 5 t = 0) (h1 : 1 ≤ k) (hk : k ≤ 60) : X1_sing b b2 (nI t) (nI k) = some (.inr (b 4 t, up2 b 4 t (nI k))) := by
  have hN := v.1.1.1
  unfold X1_sing
  rw [reqT_1 (isT_1 v.1.1.2.2.1 hN ht), bx0_r, mins_1 h1 hk, bx0_r, waits_1 (by omega) h0, bx0_r, ldA_n (by omega) (by omega), bd1_some, stA_n (by omega) (by omega), bd1_some]
theorem wake_e {N G g : Nat} {b b2 : S2} (v : Jv N G b) (hg : g < G) : X1_wake b b2 (nI g) = some (.inr (b 8 g, up2 b 8 g 9)) := by
  have hG := v.1.1.2.1
  unfold X1_wake
  rw [reqG_1 (isG_1 v.1.1.2.2.2 hG hg), bx0_r, ldA_n (by omega) (by omega), bd1_some, stA_n (by omega) (by omega), bd1_some]
theorem pass_e {N G k : Nat} {b b2 : S2} (v : Iv N G b) (h1 : 1 ≤ k) (hk : k ≤ 60) : X1_pass b b2 (nI k) = some (.inr (ca (itm N G k b 5) 3 N 0 0 - ca (b 5) 3 N 0 0, itm N G k b)) := by
  unfold X1_pass
  rw [mins_1 h1 hk, bx0_r, countIn_e v.1, bd1_some]
  exact pass_L (by omega) k 200 0 b v (by omega) (by omega)
theorem behind_L {N G k : Nat} {c : Int32} (hk : k ≤ 60) : ∀ (m n j : Nat) (u b : S2), SR N G u b → Jv N G b → j + m = k → m < n → ∃ u', X2_behind_L8 (nI k) c n (nI j) u = some (ca (itm N G m b 5) 3 N 0 0 - c, u') ∧ SR N G u' (itm N G m b) := by
  intro m
  induction m with
  | zero =>
    intro n j u b r v hj hn
    obtain ⟨n, rfl⟩ := pos_fuel hn
    rw [X2_behind_L8, if_pos (nI_le (by omega) (by omega)), count_s r v.1.1.1, bd1_some]
    exact ⟨u, rfl, r⟩
  | succ m ih =>
    intro n j u b r v hj hn
    obtain ⟨n, rfl⟩ := pos_fuel hn
    obtain ⟨u1, e1, r1⟩ := pass_s r v.1 v.2.2.1 (Lw_of v.2.2.2.1)
    rw [X2_behind_L8, if_neg (nI_ge (by omega) (by omega)), e1, bd1_some, nI_1]
    exact ih n (j + 1) u1 _ r1 (mn_jv v) (by omega) (by omega)
theorem behind_s {N G k : Nat} {u b : S2} (r : SR N G u b) (v : Jv N G b) (hk : k ≤ 60) : ∃ u', X2_behind u (nI k) = some (ca (itm N G k b 5) 3 N 0 0 - ca (b 5) 3 N 0 0, u') ∧ SR N G u' (itm N G k b) := by
  unfold X2_behind
  rw [count_s r v.1.1.1, bd1_some]
  exact behind_L hk k 61 0 u b r v (by omega) (by omega)
/-! the choice -/
def Pa (o : Option (Int32 × S2 × S2)) : Prop := ∃ N G b u, o = some (1, b, u) ∧ SR N G u b ∧ Jv N G b
theorem act_s {N G : Nat} {u b b2 : S2} (r : SR N G u b) (v : Jv N G b) (x : Int32) : Pa (L_act b b2 u x) := by
  have hN := v.1.1.1
  have hG := v.2.1
  have hT := SR_T r hN
  have hGu := SR_G r (by omega)
  obtain ⟨j, hj, ej⟩ := below_n (x >>> ((9 : Int32) &&& 31)) (d := 16) (by omega) (by omega)
  have ej : L_below (x >>> ((9 : Int32) &&& 31)) 16 = some (nI j) := ej
  unfold L_act
  rw [ej, bd1_some, hT, hGu]
  by_cases c0 : nI j = 0
  · rw [if_pos c0]
    by_cases c4 : nI G = 4
    · rw [if_pos c4]
      exact ⟨N, G, b, u, rfl, r, v⟩
    · have g4 : G < 4 := by
        have : G ≠ 4 := fun q => c4 (by rw [q]; rfl)
        omega
      obtain ⟨u1, b1, e1, e2, r1, v1⟩ := addG_e (b2 := b2) r v g4
      rw [if_neg c4, stF_i 0 0 rfl (by decide), bd1_some, stF_i 1 1 rfl (by decide), bd1_some, stF_i 2 2 rfl (by decide), bd1_some, e1, bd1_some, e2, bz2_r, if_pos rfl]
      exact ⟨N, G + 1, b1, u1, rfl, r1, v1⟩
  · rw [if_neg c0]
    refine jo0_e (P := Pa) ?_ (fun K hK => ?_)
    · by_cases c24 : nI N = 24
      · rw [if_pos c24]
        exact ⟨N, G, b, u, rfl, r, v⟩
      · have n24 : N < 24 := by
          have : N ≠ 24 := fun q => c24 (by rw [q]; rfl)
          omega
        obtain ⟨d, hd, ed⟩ := below_n (x >>> ((1 : Int32) &&& 31)) (d := 10) (by omega) (by omega)
        have ed : L_below (x >>> ((1 : Int32) &&& 31)) 10 = some (nI d) := ed
        obtain ⟨y, hy, ey⟩ := below_n x (d := 2) (by omega) (by omega)
        have ey : L_below x 2 = some (nI y) := ey
        rw [if_neg c24, ed, bd1_some, stF_i 0 0 rfl (by decide), bd1_some, ey, bd1_some]
        refine jo1_e (P := Pa) (S := fun z => ∃ k, 0 < k ∧ k ≤ 10 ∧ z = nI k) (fun z hz => ?_) (fun K2 hK2 => ?_)
        · obtain ⟨k, k0, k1, rfl⟩ := hz
          obtain ⟨e, he, ee⟩ := below_n (x >>> ((3 : Int32) &&& 31)) (d := k) k0 (by omega)
          obtain ⟨s, hs, es⟩ := below_n (x >>> ((5 : Int32) &&& 31)) (d := 10) (by omega) (by omega)
          have es : L_below (x >>> ((5 : Int32) &&& 31)) 10 = some (nI s) := es
          obtain ⟨y3, hy3, ey3⟩ := below_n x (d := 3) (by omega) (by omega)
          have ey3 : L_below x 3 = some (nI y3) := ey3
          rw [ee, bd1_some, stF_i 1 1 rfl (by decide), bd1_some, es, bd1_some, stF_i 2 2 rfl (by decide), bd1_some, ey3, bd1_some]
          refine jo1_e (P := Pa) (S := fun z => ∃ k, 0 < k ∧ k ≤ 60 ∧ z = nI k) (fun z hz => ?_) (fun K3 hK3 => ?_)
          · obtain ⟨m, m0, m1, rfl⟩ := hz
            obtain ⟨l, hl, el⟩ := below_n (x >>> ((7 : Int32) &&& 31)) (d := m) m0 (by omega)
            have el1 : 1 + nI l = nI (l + 1) := by rw [Int32.add_comm, nI_1]
            have ea : addT u (upd (upd (upd (upd (upd (upd (fun _ => 0) 0 (nI d)) 1 (nI e)) 2 (nI s)) 3 (nI (l + 1))) 4 0) 5 0) = some (up2 (up2 (up2 (up2 (up2 (up2 (up2 u 1 N (nI d)) 2 N (nI e)) 3 N (nI s)) 4 N (nI (l + 1))) 5 N 0) 6 N 0) 0 3 (nI (N + 1))) := by
              unfold addT
              rw [hT, if_neg (by omega)]
              rfl
            have r1 := tr_sr (d := nI d) (e := nI e) (s := nI s) (l := nI (l + 1)) r n24
            have v1 := tr_up (d := d) (e := e) (s := s) (l := l + 1) v n24 (by omega) (by omega) (by omega) (by omega) (by omega)
            have tN := SR_T r1 (by omega)
            rw [el, bd1_some, el1, stF_i 3 3 rfl (by decide), bd1_some, stF_i 4 4 rfl (by decide), bd1_some, stF_i 5 5 rfl (by decide), bd1_some, ea, bd1_some, ldT_0 tN (by omega), bd1_some, ldT_1 tN (by omega), bd1_some, ldT_2 tN (by omega), bd1_some, ldT_3 tN (by omega), bd1_some]
            have x1 : (up2 (up2 (up2 (up2 (up2 (up2 (up2 u 1 N (nI d)) 2 N (nI e)) 3 N (nI s)) 4 N (nI (l + 1))) 5 N 0) 6 N 0) 0 3 (nI (N + 1))) 1 N = nI d := by simp (disch := omega) only [up2_e, up2_n]
            have x2 : (up2 (up2 (up2 (up2 (up2 (up2 (up2 u 1 N (nI d)) 2 N (nI e)) 3 N (nI s)) 4 N (nI (l + 1))) 5 N 0) 6 N 0) 0 3 (nI (N + 1))) 2 N = nI e := by simp (disch := omega) only [up2_e, up2_n]
            have x3 : (up2 (up2 (up2 (up2 (up2 (up2 (up2 u 1 N (nI d)) 2 N (nI e)) 3 N (nI s)) 4 N (nI (l + 1))) 5 N 0) 6 N 0) 0 3 (nI (N + 1))) 3 N = nI s := by simp (disch := omega) only [up2_e, up2_n]
            have x4 : (up2 (up2 (up2 (up2 (up2 (up2 (up2 u 1 N (nI d)) 2 N (nI e)) 3 N (nI s)) 4 N (nI (l + 1))) 5 N 0) 6 N 0) 0 3 (nI (N + 1))) 4 N = nI (l + 1) := by simp (disch := omega) only [up2_e, up2_n]
            rw [x1, x2, x3, x4, arrive_e v n24 (by omega) (by omega) (by omega) (by omega) (by omega), bz2_r, if_pos rfl]
            exact ⟨N + 1, G, _, _, rfl, r1, v1⟩
          · by_cases cy : nI y3 = 0
            · rw [if_pos cy]
              exact hK3 _ ⟨12, by omega, by omega, rfl⟩
            · rw [if_neg cy]
              exact hK3 _ ⟨60, by omega, by omega, rfl⟩
        · by_cases cy : nI y = 0
          · rw [if_pos cy]
            exact hK2 _ ⟨10, by omega, by omega, rfl⟩
          · rw [if_neg cy]
            exact hK2 _ ⟨3, by omega, by omega, rfl⟩
    · by_cases cn : nI N = 0
      · rw [if_pos cn]
        exact hK
      · have n0 : 0 < N := by
          rcases Nat.eq_zero_or_pos N with q | q
          · exact absurd (by rw [q]; rfl) cn
          · exact q
        rw [if_neg cn]
        by_cases c5 : 5 ≤ nI j
        · obtain ⟨t, ht, et⟩ := below_n (x >>> ((1 : Int32) &&& 31)) (d := N) n0 (by omega)
          obtain ⟨q1, q2, q3, q4, q5, q6⟩ := r.2.2 t ht
          rw [if_pos c5, et, bd1_some, inT_n hT ht hN, bd1_some, nI_clamp (by omega)]
          by_cases j5 : nI j = 5
          · rw [if_pos j5, ldT_1 hT ht, bd1_some, ldT_4 hT ht, bd1_some, q5]
            by_cases w : b 5 t = 0
            · obtain ⟨d, hd, ed⟩ := below_n (x >>> ((3 : Int32) &&& 31)) (d := 10) (by omega) (by omega)
              have ed : L_below (x >>> ((3 : Int32) &&& 31)) 10 = some (nI d) := ed
              rw [if_pos w, ed, bd1_some, stT_1 hT ht, bd1_some, ldT_1 (M := N) (by rw [nT_up (by omega)]; exact hT) ht, bd1_some, up2_e ⟨rfl, rfl⟩, declare_e v ht w (by omega), bz2_r, q2, if_pos rfl]
              exact ⟨N, G, _, _, rfl, SR_up r (by omega) (by omega), Jv_2 v (by omega)⟩
            · rw [if_neg w]
              exact ⟨N, G, b, u, rfl, r, v⟩
          · rw [if_neg j5]
            by_cases j6 : nI j = 6
            · rw [if_pos j6, ldT_3 hT ht, bd1_some, ldT_4 hT ht, bd1_some, q5]
              by_cases w : b 5 t = 0
              · obtain ⟨d, hd, ed⟩ := below_n (x >>> ((3 : Int32) &&& 31)) (d := 60) (by omega) (by omega)
                have ed : L_below (x >>> ((3 : Int32) &&& 31)) 60 = some (nI d) := ed
                have el1 : 1 + nI d = nI (d + 1) := by rw [Int32.add_comm, nI_1]
                rw [if_pos w, ed, bd1_some, el1, stT_3 hT ht, bd1_some, ldT_3 (M := N) (by rw [nT_up (by omega)]; exact hT) ht, bd1_some, up2_e ⟨rfl, rfl⟩, sing_e v ht w (by omega) (by omega), bz2_r, q4, if_pos rfl]
                exact ⟨N, G, _, _, rfl, SR_up r (by omega) (by omega), Jv_4 v (by omega) (by omega)⟩
              · rw [if_neg w]
                exact ⟨N, G, b, u, rfl, r, v⟩
            · rw [if_neg j6]
              by_cases j7 : nI j = 7
              · rw [if_pos j7]
                by_cases cg : nI G = 0
                · rw [if_pos cg]
                  exact ⟨N, G, b, u, rfl, r, v⟩
                · have g0 : 0 < G := by
                    rcases Nat.eq_zero_or_pos G with q | q
                    · exact absurd (by rw [q]; rfl) cg
                    · exact q
                  obtain ⟨g, hg, eg⟩ := below_n (x >>> ((3 : Int32) &&& 31)) (d := G) g0 (by omega)
                  obtain ⟨p8, p9, p10⟩ := r.2.1 g hg
                  rw [if_neg cg, eg, bd1_some, inG_n hGu hg (by omega), bd1_some, nI_clamp (by omega), ldG_0 hGu hg, bd1_some, bd1_some, stG_0 hGu hg, bd1_some, wake_e v hg, bz2_r, p8, if_pos rfl]
                  exact ⟨N, G, _, _, rfl, SR_up r (by omega) (by omega), Jv_8 (k := 9) v hg (by omega)⟩
              · obtain ⟨y, hy, ey⟩ := below_n x (d := 8) (by omega) (by omega)
                have ey : L_below x 8 = some (nI y) := ey
                rw [if_neg j7, ey, bd1_some]
                refine jo1_e (P := Pa) (S := fun z => ∃ k, 0 < k ∧ k ≤ 60 ∧ z = nI k) (fun z hz => ?_) (fun K3 hK3 => ?_)
                · obtain ⟨m, m0, m1, rfl⟩ := hz
                  obtain ⟨l, hl, el⟩ := below_n (x >>> ((2 : Int32) &&& 31)) (d := m) m0 (by omega)
                  have el1 : 1 + nI l = nI (l + 1) := by rw [Int32.add_comm, nI_1]
                  obtain ⟨u1, e1, r1⟩ := behind_s r v (k := l + 1) (by omega)
                  rw [el, bd1_some, el1, pass_e v.1 (by omega) (by omega), bz2_r, e1, bd2_some, if_pos rfl]
                  exact ⟨N, G, _, _, rfl, r1, itm_jv _ v⟩
                · by_cases cy : nI y = 0
                  · rw [if_pos cy]
                    exact hK3 _ ⟨60, by omega, by omega, rfl⟩
                  · rw [if_neg cy]
                    exact hK3 _ ⟨3, by omega, by omega, rfl⟩
        · rw [if_neg c5]
          exact hK
