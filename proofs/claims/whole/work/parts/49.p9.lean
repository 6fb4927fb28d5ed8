/-! PURE 9: the law's deeds -/
theorem Iv_o {N G : Nat} {b c : S2} (h : Iv N G b) (h0 : c 0 = b 0) (h5 : c 5 = b 5) (h6 : c 6 = b 6) (h8 : c 8 = b 8) (h9 : c 9 = b 9) : Iv N G c := by
  obtain ⟨hd, hg, tr⟩ := h
  refine ⟨⟨hd.1, hd.2.1, by rw [h0]; exact hd.2.2.1, by rw [h0]; exact hd.2.2.2⟩, ?_, ?_⟩
  · unfold Gd; rw [h5, h8, h9]; exact hg
  · rw [h5, h6]; exact tr
theorem c0 {xs : Nat → Int32} {L : Nat} {K : S2 → S2 → (Nat → Int64) → S2 → Option Int32} {l4 : Int32} {b1 b2 w : S2} {o : Nat → Int64} (hK : KH K) (hI : LI b1 w) : L_law_C0 xs L K l4 b1 b2 o w = some 1 := by
  obtain ⟨N, G, hG, v, r⟩ := hI
  have hN := v.1.1
  have r0 := RM_t r hN (by omega) 0
  have hI0 : LI b1 (up2 w 0 0 0) := ⟨N, G, hG, v, r0⟩
  unfold L_law_C0
  by_cases h : G < 4
  · obtain ⟨b', w', q1, q2, q3, q4, q5⟩ := hire_r r0 v (by omega)
    have E1 : L_addGuard b1 b2 o = some (0, b', vp_updL o 0 (Int32.toInt64 (nI (G + 1) - 1))) := by
      unfold L_addGuard X1_addGuard
      rw [v.1.2.2.2, if_pos (show nI G < (4 : Int32) from nI_lt (b := 4) h (by omega)), q1, bd1_some, bc2_r, stL_0, bd1_some, q3.1.2.2.2]
    have E2 : X2_addGuard w = some (nI (G + 1) - 1, w') := by
      unfold X2_addGuard
      rw [bd1_some, ld3_3, bd1_some, r0.1.2.2.2.2, if_neg (fun z => by have := nI_inj (a := G) (b := 4) (by omega) (by omega) z; omega), q2, bd1_some, ld3_3, bd1_some, q4.1.2.2.2.2]
    rw [E1, bd3_some, E2, bd2_some]
    exact fin_v hK ⟨N, G + 1, by omega, q3, q4⟩ (by rw [q5.1]; rfl) (fun _ => rfl)
  · have e : G = 4 := by omega
    subst e
    have E1 : L_addGuard b1 b2 o = some (1, b1, o) := by
      unfold L_addGuard X1_addGuard
      rw [v.1.2.2.2, if_neg (show ¬ nI 4 < (4 : Int32) by decide)]; rfl
    have E2 : X2_addGuard w = some (0, up2 (up2 w 0 0 0) 0 0 1) := by
      unfold X2_addGuard
      rw [bd1_some, ld3_3, bd1_some, r0.1.2.2.2.2, if_pos (show nI 4 = (4 : Int32) from rfl)]; rfl
    rw [E1, bd3_some, E2, bd2_some]
    exact fin_v hK (LI_t hI0 1) rfl (fun z => absurd z (by decide))
def adT (b : S2) (N : Nat) (x0 x1 x2 x3 : Int32) : S2 := up2 (up2 (up2 (up2 (up2 (up2 b 1 N x0) 2 N x1) 3 N x2) 4 N x3) 5 N 0) 0 3 (nI (N + 1))
def arW (w : S2) (N : Nat) (x0 x1 x2 x3 : Int32) : S2 := up2 (up2 (up2 (up2 (up2 w 1 N x0) 2 N x2) 3 (29 + 4 * N) x3) 3 (30 + 4 * N) x1) 0 1 (nI (N + 1))
theorem adT_iv {N G : Nat} {b : S2} {x0 x1 x2 x3 : Int32} (v : Iv N G b) (hN : N < 24) : Iv (N + 1) G (adT b N x0 x1 x2 x3) := by
  obtain ⟨⟨-, hG, h3, h4⟩, ⟨g1, g2⟩, tr⟩ := v
  have hb : ∀ g t, g < G → b 9 g = nI t → t < N + 1 → t < N := by
    intro g t hg e ht
    rcases (g1 g hg).2 with q | ⟨s, q1, q2, q3⟩
    · rw [q] at e; exact absurd e.symm (nI_m1 t (by omega))
    · rw [e] at q2
      have := nI_inj (by omega) (by omega) q2
      omega
  unfold adT
  refine ⟨⟨by omega, hG, by rw [up2_e (by omega)], by simp (disch := omega) only [up2_n]; exact h4⟩, ⟨fun g hg => ?_, fun g g' t hg hg' ht h1 h2 => ?_⟩, fun t ht h => ?_⟩
  · refine ⟨by simp (disch := omega) only [up2_n]; exact (g1 g hg).1, ?_⟩
    rcases (g1 g hg).2 with q | ⟨s, q1, q2, q3⟩
    · exact Or.inl (by simp (disch := omega) only [up2_n]; exact q)
    · exact Or.inr ⟨s, by omega, by simp (disch := omega) only [up2_n]; exact q2, by simp (disch := omega) only [up2_n]; exact q3⟩
  · simp (disch := omega) only [up2_n] at h1 h2
    exact g2 g g' t hg hg' (hb g t hg h1 ht) h1 h2
  · by_cases e : t = N
    · subst e
      simp (disch := omega) only [up2_e, up2_n] at h
      exact absurd h (by decide)
    · simp (disch := omega) only [up2_n] at h ⊢
      exact tr t (by omega) h
theorem arW_r {N G : Nat} {w b : S2} {x0 x1 x2 x3 : Int32} (r : RM N G w b) (hN : N < 24) (hG : G ≤ 8) : RM (N + 1) G (arW w N x0 x1 x2 x3) (adT b N x0 x1 x2 x3) := by
  obtain ⟨⟨s1, s2, s3, s4, s5⟩, hg, ht, hz⟩ := r
  unfold adT arW
  refine ⟨⟨by rw [up2_e (by omega)], ?_, ?_, ?_, ?_⟩, fun x hx => ?_, fun x hx => ?_, fun x z1 z2 => ?_⟩
  · simp (disch := omega) only [up2_n]; exact s2
  · simp (disch := omega) only [up2_n]; exact s3
  · simp (disch := omega) only [up2_n]; exact s4
  · simp (disch := omega) only [up2_n]; exact s5
  · simp (disch := omega) only [up2_n]; exact hg x hx
  · by_cases e : x = N
    · subst e
      simp (disch := omega) only [up2_e, up2_n]
      exact ⟨trivial, trivial, hz x (by omega) hN, trivial, trivial, fun h => absurd h (by decide)⟩
    · simp (disch := omega) only [up2_n]; exact ht x (by omega)
  · simp (disch := omega) only [up2_n]; exact hz x (by omega) z2
theorem c1 {xs : Nat → Int32} {L : Nat} {K : S2 → S2 → (Nat → Int64) → S2 → Option Int32} {l4 : Int32} {b1 b2 w : S2} {o : Nat → Int64} {x0 x1 x2 x3 : Int32} (hK : KH K) (hI : LI b1 w) (h0 : ldA xs L (l4 + 1) = some x0) (h1 : ldA xs L (l4 + 2) = some x1) (h2 : ldA xs L (l4 + 3) = some x2) (h3 : ldA xs L (l4 + 4) = some x3) : L_law_C1 xs L K l4 b1 b2 o w = some 1 := by
  obtain ⟨N, G, hG, v, r⟩ := hI
  have hN := v.1.1
  have r0 := RM_t r hN (by omega) 0
  have hI0 : LI b1 (up2 w 0 0 0) := ⟨N, G, hG, v, r0⟩
  unfold L_law_C1
  have bad : ∀ k : Int32, k ≠ 0 → L_arrive b1 b2 o x0 x1 x2 x3 = some (k, b1, o) → X2_arrive w x0 x1 x2 x3 = some (0, up2 (up2 w 0 0 0) 0 0 k) → (bd1 (ldA xs L (l4 + 1)) fun x2 => bd1 (ldA xs L (l4 + 2)) fun x4 => bd1 (ldA xs L (l4 + 3)) fun x6 => bd1 (ldA xs L (l4 + 4)) fun x8 => bd3 (L_arrive b1 b2 o x2 x4 x6 x8) fun x9 b1_10 o_11 => bd1 (ldA xs L (l4 + 1)) fun x14 => bd1 (ldA xs L (l4 + 2)) fun x16 => bd1 (ldA xs L (l4 + 3)) fun x18 => bd1 (ldA xs L (l4 + 4)) fun x20 => bd2 (X2_arrive w x14 x16 x18 x20) fun x21 w_22 => bd1 (X2_thrown w_22) fun x24 => (if x24 = x9 then (if x9 = 0 then bd1 (ldL o_11 1 0) fun x29 => (if (lg_cmp x29 (Int32.toInt64 x21)) = 0 then K b1_10 b2 o_11 w_22 else some 0) else K b1_10 b2 o_11 w_22) else some 0)) = some 1 := by
    intro k hk E1 E2
    rw [h0, bd1_some, h1, bd1_some, h2, bd1_some, h3, bd1_some, E1, bd3_some, bd1_some, bd1_some, bd1_some, bd1_some, E2, bd2_some]
    exact fin_v hK (LI_t hI0 k) (up2_e (by omega)) (fun z => absurd z hk)
  rcases dig_c x0 with ⟨p1, p2⟩ | ⟨p1, p2⟩
  · refine bad 1 (by decide) ?_ ?_
    · unfold L_arrive X1_arrive; rw [p1]; rfl
    · unfold X2_arrive; rw [bd1_some, p2]; rfl
  rcases dig_c x1 with ⟨q1, q2⟩ | ⟨q1, q2⟩
  · refine bad 1 (by decide) ?_ ?_
    · unfold L_arrive X1_arrive; rw [p1, bx0_r, q1]; rfl
    · unfold X2_arrive; rw [bd1_some, p2, bd1_some, if_neg (by decide), q2]; rfl
  rcases dig_c x2 with ⟨s1, s2⟩ | ⟨s1, s2⟩
  · refine bad 1 (by decide) ?_ ?_
    · unfold L_arrive X1_arrive; rw [p1, bx0_r, q1, bx0_r, s1]; rfl
    · unfold X2_arrive; rw [bd1_some, p2, bd1_some, if_neg (by decide), q2, bd1_some, if_neg (by decide), s2]; rfl
  rcases min_c x3 with ⟨t1, t2⟩ | ⟨t1, t2, -⟩
  · refine bad 1 (by decide) ?_ ?_
    · unfold L_arrive X1_arrive; rw [p1, bx0_r, q1, bx0_r, s1, bx0_r, t1]; rfl
    · unfold X2_arrive; rw [bd1_some, p2, bd1_some, if_neg (by decide), q2, bd1_some, if_neg (by decide), s2, bd1_some, if_neg (by decide), t2]; rfl
  by_cases hn : N < 24
  · have l24 : 24 < 2 ^ 31 := by omega
    have E0 : X0_admitTraveller b1 x0 x1 x2 x3 = some (adT b1 N x0 x1 x2 x3) := by
      have e3 := v.1.2.2.1
      unfold X0_admitTraveller adT
      rw [e3, if_pos (show nI N < (24 : Int32) from nI_lt (b := 24) hn (by omega)), stA_n hn l24, bd1_some]
      rw [up2_c (show (0 : Nat) ≠ 1 by omega), e3, stA_n hn l24, bd1_some]
      rw [up2_c (show (0 : Nat) ≠ 2 by omega), up2_c (show (0 : Nat) ≠ 1 by omega), e3, stA_n hn l24, bd1_some]
      rw [up2_c (show (0 : Nat) ≠ 3 by omega), up2_c (show (0 : Nat) ≠ 2 by omega), up2_c (show (0 : Nat) ≠ 1 by omega), e3, stA_n hn l24, bd1_some]
      rw [up2_c (show (0 : Nat) ≠ 4 by omega), up2_c (show (0 : Nat) ≠ 3 by omega), up2_c (show (0 : Nat) ≠ 2 by omega), up2_c (show (0 : Nat) ≠ 1 by omega), e3, stA_n hn l24, bd1_some]
      rw [up2_c (show (0 : Nat) ≠ 5 by omega), up2_c (show (0 : Nat) ≠ 4 by omega), up2_c (show (0 : Nat) ≠ 3 by omega), up2_c (show (0 : Nat) ≠ 2 by omega), up2_c (show (0 : Nat) ≠ 1 by omega), e3, nI_1, bd1_some]
    have v' := adT_iv (x0 := x0) (x1 := x1) (x2 := x2) (x3 := x3) v hn
    have r' := arW_r (x0 := x0) (x1 := x1) (x2 := x2) (x3 := x3) r0 hn (by omega)
    have E1 : L_arrive b1 b2 o x0 x1 x2 x3 = some (0, adT b1 N x0 x1 x2 x3, vp_updL o 0 (Int32.toInt64 (nI (N + 1) - 1))) := by
      unfold L_arrive X1_arrive
      rw [p1, bx0_r, q1, bx0_r, s1, bx0_r, t1, bx0_r, v.1.2.2.1, if_pos (show nI N < (24 : Int32) from nI_lt (b := 24) hn (by omega)), E0, bd1_some, bc2_r, stL_0, bd1_some, v'.1.2.2.1]
    have E2 : X2_arrive w x0 x1 x2 x3 = some (nI (N + 1) - 1, arW (up2 w 0 0 0) N x0 x1 x2 x3) := by
      have e1 := r0.1.1
      unfold X2_arrive arW
      rw [bd1_some, p2, bd1_some, if_neg (by decide), q2, bd1_some, if_neg (by decide), s2, bd1_some, if_neg (by decide), t2, bd1_some, if_neg (by decide), e1, if_neg (fun z => by have := nI_inj (a := N) (b := 24) (by omega) (by omega) z; omega), stA_n hn l24, bd1_some]
      rw [up2_c (show (0 : Nat) ≠ 1 by omega), e1, stA_n hn l24, bd1_some]
      rw [up2_c (show (0 : Nat) ≠ 2 by omega), up2_c (show (0 : Nat) ≠ 1 by omega), e1, let1 hn, bd1_some]
      rw [up2_c (show (0 : Nat) ≠ 3 by omega), up2_c (show (0 : Nat) ≠ 2 by omega), up2_c (show (0 : Nat) ≠ 1 by omega), e1, let2 hn, bd1_some]
      rw [up2_c (show (0 : Nat) ≠ 3 by omega), up2_c (show (0 : Nat) ≠ 3 by omega), up2_c (show (0 : Nat) ≠ 2 by omega), up2_c (show (0 : Nat) ≠ 1 by omega), e1, nI_1, bd1_some, up2_e (by omega)]
    rw [h0, bd1_some, h1, bd1_some, h2, bd1_some, h3, bd1_some, E1, bd3_some, bd1_some, bd1_some, bd1_some, bd1_some, E2, bd2_some]
    exact fin_v hK ⟨N + 1, G, hG, v', r'⟩ rfl (fun _ => rfl)
  · have e : N = 24 := by omega
    subst e
    refine bad 2 (by decide) ?_ ?_
    · unfold L_arrive X1_arrive
      rw [p1, bx0_r, q1, bx0_r, s1, bx0_r, t1, bx0_r, v.1.2.2.1, if_neg (show ¬ nI 24 < (24 : Int32) by decide)]; rfl
    · unfold X2_arrive
      rw [bd1_some, p2, bd1_some, if_neg (by decide), q2, bd1_some, if_neg (by decide), s2, bd1_some, if_neg (by decide), t2, bd1_some, if_neg (by decide), r0.1.1, if_pos (show nI 24 = (24 : Int32) from rfl)]; rfl
theorem c2 {xs : Nat → Int32} {L : Nat} {K : S2 → S2 → (Nat → Int64) → S2 → Option Int32} {l4 : Int32} {b1 b2 w : S2} {o : Nat → Int64} {a c : Int32} (hK : KH K) (hI : LI b1 w) (ha : ldA xs L (l4 + 1) = some a) (hc : ldA xs L (l4 + 2) = some c) : L_law_C2 xs L K l4 b1 b2 o w = some 1 := by
  obtain ⟨N, G, hG, v, r⟩ := hI
  have hN := v.1.1
  have r0 := RM_t r hN (by omega) 0
  have hI0 : LI b1 (up2 w 0 0 0) := ⟨N, G, hG, v, r0⟩
  unfold L_law_C2
  have bad : ∀ k : Int32, k ≠ 0 → L_declare b1 b2 o a c = some (k, b1, o) → X2_declare w a c = some (0, up2 (up2 w 0 0 0) 0 0 k) → (bd1 (ldA xs L (l4 + 1)) fun x2 => bd1 (ldA xs L (l4 + 2)) fun x4 => bd3 (L_declare b1 b2 o x2 x4) fun x5 b1_6 o_7 => bd1 (ldA xs L (l4 + 1)) fun x10 => bd1 (ldA xs L (l4 + 2)) fun x12 => bd2 (X2_declare w x10 x12) fun x13 w_14 => bd1 (X2_thrown w_14) fun x16 => (if x16 = x5 then (if x5 = 0 then bd1 (ldL o_7 1 0) fun x21 => (if (lg_cmp x21 (Int32.toInt64 x13)) = 0 then K b1_6 b2 o_7 w_14 else some 0) else K b1_6 b2 o_7 w_14) else some 0)) = some 1 := by
    intro k hk E1 E2
    rw [ha, bd1_some, hc, bd1_some, E1, bd3_some, bd1_some, bd1_some, E2, bd2_some]
    exact fin_v hK (LI_t hI0 k) (up2_e (by omega)) (fun z => absurd z hk)
  rcases argT v.1 a with ⟨t, ht, rfl, e1, e2⟩ | ⟨e1, e2⟩
  · have r5 := (r0.2.2.1 t ht).2.2.1
    rcases dig_c c with ⟨p1, p2⟩ | ⟨p1, p2⟩
    · refine bad 2 (by decide) ?_ ?_
      · unfold L_declare X1_declare; rw [reqT_1 e1, bx0_r, p1]; rfl
      · unfold X2_declare X2_write; rw [bd1_some, e2 _ r0.1.1, bd1_some, if_neg (by decide), p2]; rfl
    · by_cases h5 : b1 5 t = 0
      · have E0 : X1_requireWaiting b1 b2 (nI t) = some (.inr ()) := by
          unfold X1_requireWaiting; rw [ldA_n (by omega) (by omega), bd1_some, if_pos h5]
        have E1 : L_declare b1 b2 o (nI t) c = some (0, up2 b1 2 t c, vp_updL o 0 (Int32.toInt64 (b1 2 t))) := by
          unfold L_declare X1_declare
          rw [reqT_1 e1, bx0_r, p1, bx0_r, E0, bx0_r, ldA_n (by omega) (by omega), bd1_some, stA_n (by omega) (by omega), bd1_some, bc2_r, stL_0, bd1_some]
        have E2 : X2_declare w (nI t) c = some (b1 2 t, up2 (up2 w 0 0 0) 3 (30 + 4 * t) c) := by
          unfold X2_declare X2_write
          rw [bd1_some, e2 _ r0.1.1, bd1_some, if_neg (by decide), p2, bd1_some, if_neg (by decide), tr0 (by omega), bd1_some, r5, if_pos h5, tr2 (by omega), bd1_some, let2 (by omega), bd1_some, bd2_some, (r0.2.2.1 t ht).2.2.2.2.1]
        rw [ha, bd1_some, hc, bd1_some, E1, bd3_some, bd1_some, bd1_some, E2, bd2_some]
        refine fin_v hK ⟨N, G, hG, Iv_o v (up2_c (by omega)) (up2_c (by omega)) (up2_c (by omega)) (up2_c (by omega)) (up2_c (by omega)), RM_to r0 hN (by omega) ht⟩ ?_ (fun _ => rfl)
        rw [up2_n (by omega)]; rfl
      · have E0 : X1_requireWaiting b1 b2 (nI t) = some (.inl 1) := by
          unfold X1_requireWaiting; rw [ldA_n (by omega) (by omega), bd1_some, if_neg h5]
        refine bad 3 (by decide) ?_ ?_
        · unfold L_declare X1_declare; rw [reqT_1 e1, bx0_r, p1, bx0_r, E0]; rfl
        · unfold X2_declare X2_write
          rw [bd1_some, e2 _ r0.1.1, bd1_some, if_neg (by decide), p2, bd1_some, if_neg (by decide), tr0 (by omega), bd1_some, r5, if_neg h5]; rfl
  · refine bad 1 (by decide) ?_ ?_
    · unfold L_declare X1_declare; rw [reqT_0 e1]; rfl
    · unfold X2_declare X2_write; rw [bd1_some, e2 _ r0.1.1]; rfl
theorem c3 {xs : Nat → Int32} {L : Nat} {K : S2 → S2 → (Nat → Int64) → S2 → Option Int32} {l4 : Int32} {b1 b2 w : S2} {o : Nat → Int64} {a c : Int32} (hK : KH K) (hI : LI b1 w) (ha : ldA xs L (l4 + 1) = some a) (hc : ldA xs L (l4 + 2) = some c) : L_law_C3 xs L K l4 b1 b2 o w = some 1 := by
  obtain ⟨N, G, hG, v, r⟩ := hI
  have hN := v.1.1
  have r0 := RM_t r hN (by omega) 0
  have hI0 : LI b1 (up2 w 0 0 0) := ⟨N, G, hG, v, r0⟩
  unfold L_law_C3
  have bad : ∀ k : Int32, k ≠ 0 → L_sing b1 b2 o a c = some (k, b1, o) → X2_sing w a c = some (0, up2 (up2 w 0 0 0) 0 0 k) → (bd1 (ldA xs L (l4 + 1)) fun x2 => bd1 (ldA xs L (l4 + 2)) fun x4 => bd3 (L_sing b1 b2 o x2 x4) fun x5 b1_6 o_7 => bd1 (ldA xs L (l4 + 1)) fun x10 => bd1 (ldA xs L (l4 + 2)) fun x12 => bd2 (X2_sing w x10 x12) fun x13 w_14 => bd1 (X2_thrown w_14) fun x16 => (if x16 = x5 then (if x5 = 0 then bd1 (ldL o_7 1 0) fun x21 => (if (lg_cmp x21 (Int32.toInt64 x13)) = 0 then K b1_6 b2 o_7 w_14 else some 0) else K b1_6 b2 o_7 w_14) else some 0)) = some 1 := by
    intro k hk E1 E2
    rw [ha, bd1_some, hc, bd1_some, E1, bd3_some, bd1_some, bd1_some, E2, bd2_some]
    exact fin_v hK (LI_t hI0 k) (up2_e (by omega)) (fun z => absurd z hk)
  rcases argT v.1 a with ⟨t, ht, rfl, e1, e2⟩ | ⟨e1, e2⟩
  · have r5 := (r0.2.2.1 t ht).2.2.1
    rcases min_c c with ⟨p1, p2⟩ | ⟨p1, p2, -⟩
    · refine bad 2 (by decide) ?_ ?_
      · unfold L_sing X1_sing; rw [reqT_1 e1, bx0_r, p1]; rfl
      · unfold X2_sing X2_write; rw [bd1_some, e2 _ r0.1.1, bd1_some, if_neg (by decide), p2]; rfl
    · by_cases h5 : b1 5 t = 0
      · have E0 : X1_requireWaiting b1 b2 (nI t) = some (.inr ()) := by
          unfold X1_requireWaiting; rw [ldA_n (by omega) (by omega), bd1_some, if_pos h5]
        have E1 : L_sing b1 b2 o (nI t) c = some (0, up2 b1 4 t c, vp_updL o 0 (Int32.toInt64 (b1 4 t))) := by
          unfold L_sing X1_sing
          rw [reqT_1 e1, bx0_r, p1, bx0_r, E0, bx0_r, ldA_n (by omega) (by omega), bd1_some, stA_n (by omega) (by omega), bd1_some, bc2_r, stL_0, bd1_some]
        have E2 : X2_sing w (nI t) c = some (b1 4 t, up2 (up2 w 0 0 0) 3 (29 + 4 * t) c) := by
          unfold X2_sing X2_write
          rw [bd1_some, e2 _ r0.1.1, bd1_some, if_neg (by decide), p2, bd1_some, if_neg (by decide), tr0 (by omega), bd1_some, r5, if_pos h5, tr1 (by omega), bd1_some, let1 (by omega), bd1_some, bd2_some, (r0.2.2.1 t ht).2.2.2.1]
        rw [ha, bd1_some, hc, bd1_some, E1, bd3_some, bd1_some, bd1_some, E2, bd2_some]
        refine fin_v hK ⟨N, G, hG, Iv_o v (up2_c (by omega)) (up2_c (by omega)) (up2_c (by omega)) (up2_c (by omega)) (up2_c (by omega)), RM_lu r0 hN (by omega) ht⟩ ?_ (fun _ => rfl)
        rw [up2_n (by omega)]; rfl
      · have E0 : X1_requireWaiting b1 b2 (nI t) = some (.inl 1) := by
          unfold X1_requireWaiting; rw [ldA_n (by omega) (by omega), bd1_some, if_neg h5]
        refine bad 3 (by decide) ?_ ?_
        · unfold L_sing X1_sing; rw [reqT_1 e1, bx0_r, p1, bx0_r, E0]; rfl
        · unfold X2_sing X2_write
          rw [bd1_some, e2 _ r0.1.1, bd1_some, if_neg (by decide), p2, bd1_some, if_neg (by decide), tr0 (by omega), bd1_some, r5, if_neg h5]; rfl
  · refine bad 1 (by decide) ?_ ?_
    · unfold L_sing X1_sing; rw [reqT_0 e1]; rfl
    · unfold X2_sing X2_write; rw [bd1_some, e2 _ r0.1.1]; rfl
theorem c4 {xs : Nat → Int32} {L : Nat} {K : S2 → S2 → (Nat → Int64) → S2 → Option Int32} {l4 : Int32} {b1 b2 w : S2} {o : Nat → Int64} {a : Int32} (hK : KH K) (hI : LI b1 w) (ha : ldA xs L (l4 + 1) = some a) : L_law_C4 xs L K l4 b1 b2 o w = some 1 := by
  obtain ⟨N, G, hG, v, r⟩ := hI
  have hN := v.1.1
  have r0 := RM_t r hN (by omega) 0
  have hI0 : LI b1 (up2 w 0 0 0) := ⟨N, G, hG, v, r0⟩
  unfold L_law_C4
  rcases argG v.1 a with ⟨g, hg, rfl, e1, e2⟩ | ⟨e1, e2⟩
  · have E1 : L_wake b1 b2 o (nI g) = some (0, up2 b1 8 g 9, vp_updL o 0 (Int32.toInt64 (b1 8 g))) := by
      unfold L_wake X1_wake
      rw [reqG_1 e1, bx0_r, ldA_n (by omega) (by omega), bd1_some, stA_n (by omega) (by omega), bd1_some, bc2_r, stL_0, bd1_some]
    have E2 : X2_wake w (nI g) = some (b1 8 g, up2 (up2 w 0 0 0) 3 (4 + 3 * g) 9) := by
      unfold X2_wake
      rw [bd1_some, e2 _ r0.1.2.2.2.2, bd1_some, if_neg (by decide), gu0 (by omega), bd1_some, post0 (by omega), bd1_some, (r0.2.1 g hg).1]
    rw [ha, bd1_some, E1, bd3_some, bd1_some, E2, bd2_some]
    refine fin_v hK ⟨N, G, hG, alr_iv v hg ⟨9, by omega, rfl⟩, RM_al r0 hN (by omega) hg⟩ ?_ (fun _ => rfl)
    rw [up2_n (by omega)]; rfl
  · have E1 : L_wake b1 b2 o a = some (1, b1, o) := by
      unfold L_wake X1_wake
      rw [reqG_0 e1]; rfl
    have E2 : X2_wake w a = some (0, up2 (up2 w 0 0 0) 0 0 1) := by
      unfold X2_wake
      rw [bd1_some, e2 _ r0.1.2.2.2.2]; rfl
    rw [ha, bd1_some, E1, bd3_some, bd1_some, E2, bd2_some]
    exact fin_v hK (LI_t hI0 1) rfl (fun z => absurd z (by decide))
theorem c5 {xs : Nat → Int32} {L : Nat} {K : S2 → S2 → (Nat → Int64) → S2 → Option Int32} {l4 : Int32} {b1 b2 w : S2} {o : Nat → Int64} {a : Int32} (hK : KH K) (hI : LI b1 w) (ha : ldA xs L (l4 + 1) = some a) : L_law_C5 xs L K l4 b1 b2 o w = some 1 := by
  obtain ⟨N, G, hG, v, r⟩ := hI
  have hN := v.1.1
  have r0 := RM_t r hN (by omega) 0
  have hI0 : LI b1 (up2 w 0 0 0) := ⟨N, G, hG, v, r0⟩
  unfold L_law_C5
  rcases min_c a with ⟨p1, p2⟩ | ⟨p1, p2, k, k1, k2, rfl⟩
  · have E1 : L_pass b1 b2 o a = some (1, b1, o) := by
      unfold L_pass X1_pass
      rw [p1]; rfl
    have E2 : X2_pass w a = some (0, up2 (up2 w 0 0 0) 0 0 1) := by
      unfold X2_pass
      rw [bd1_some, p2]; rfl
    rw [ha, bd1_some, E1, bd3_some, bd1_some, E2, bd2_some]
    exact fin_v hK (LI_t hI0 1) rfl (fun z => absurd z (by decide))
  · have v' := itm_iv k v
    obtain ⟨w', m1, m2, m3⟩ := minutes_r (k := k) r0 v (by omega)
    have E0 := pass_L (N := N) (G := G) (k := k) (b2 := b2) (c := ca (b1 5) 3 N 0 0) (by omega) k 200 0 b1 v (by omega) (by omega)
    have E1 : L_pass b1 b2 o (nI k) = some (0, itm N G k b1, vp_updL o 0 (Int32.toInt64 (ca (itm N G k b1 5) 3 N 0 0 - ca (b1 5) 3 N 0 0))) := by
      unfold L_pass X1_pass
      rw [p1, bx0_r, countIn_e v.1, bd1_some, show X1_pass_L15 (nI k) (ca (b1 5) 3 N 0 0) b2 200 0 b1 = _ from E0, bc2_r, stL_0, bd1_some]
    have E2 : X2_pass w (nI k) = some (ca (itm N G k b1 5) 3 N 0 0 - ca (b1 5) 3 N 0 0, w') := by
      unfold X2_pass
      rw [bd1_some, p2, bd1_some, if_neg (by decide), count_m r0 hN, bd1_some, m1, bd1_some, count_m m2 hN, bd1_some]
    rw [ha, bd1_some, E1, bd3_some, bd1_some, E2, bd2_some]
    exact fin_v hK ⟨N, G, hG, v', m2⟩ (by rw [m3.1]; rfl) (fun _ => rfl)
theorem sa_n {N G : Nat} {b : S2} (v : Iv N G b) : ∀ (m g c : Nat), g + m = G → ∃ s, s ≤ c + 9 * m ∧ sa (b 8) m g (nI c) = nI s := by
  intro m
  induction m with
  | zero => intro g c _; exact ⟨c, by omega, rfl⟩
  | succ m ih =>
    intro g c hg
    obtain ⟨⟨a, ha, ea⟩, -⟩ := v.2.1.1 g (by omega)
    obtain ⟨s, h1, h2⟩ := ih (g + 1) (c + a) (by omega)
    refine ⟨s, by omega, ?_⟩
    show sa (b 8) m (g + 1) (nI c + b 8 g) = nI s
    rw [ea, nI_add]
    exact h2
theorem mean_L {G : Nat} {b1 b2 : S2} (hG : b1 0 4 = nI G) (hG' : G ≤ 8) : ∀ (m n g : Nat) (c : Int32), g + m = G → m < n → X1_meanAlertness_L16 b1 b2 n c (nI g) = bd1 (nn (FP.ddiv (FP.i2d (sa (b1 8) m g c)) (FP.i2d (nI G)))) fun _ => some (FP.ddiv (FP.i2d (sa (b1 8) m g c)) (FP.i2d (nI G))) := by
  intro m
  induction m with
  | zero =>
    intro n g c hg hn
    obtain ⟨n, rfl⟩ := pos_fuel hn
    rw [X1_meanAlertness_L16, hG, if_pos (nI_le (by omega) (by omega))]
    rfl
  | succ m ih =>
    intro n g c hg hn
    obtain ⟨n, rfl⟩ := pos_fuel hn
    rw [X1_meanAlertness_L16, hG, if_neg (nI_ge (by omega) (by omega)), ldA_n (by omega) (by omega), bd1_some, nI_1]
    exact ih n (g + 1) _ (by omega) (by omega)
theorem meanR_L {N G : Nat} {w b : S2} (r : RM N G w b) (hG : G ≤ 8) : ∀ (m n g : Nat) (c : Int32), g + m = G → m < n → X2_meanAlertness_L9 w n c (nI g) = if nI G = 0 then some (FP.dconst0, w) else bd1 (nn (FP.ddiv (FP.i2d (sa (b 8) m g c)) (FP.i2d (nI G)))) fun _ => some ((FP.ddiv (FP.i2d (sa (b 8) m g c)) (FP.i2d (nI G))), w) := by
  intro m
  induction m with
  | zero =>
    intro n g c hg hn
    obtain ⟨n, rfl⟩ := pos_fuel hn
    rw [X2_meanAlertness_L9, ld3_3, bd1_some, r.1.2.2.2.2, if_pos (nI_le (by omega) (by omega)), bd1_some, bd1_some]
    rfl
  | succ m ih =>
    intro n g c hg hn
    obtain ⟨n, rfl⟩ := pos_fuel hn
    rw [X2_meanAlertness_L9, ld3_3, bd1_some, r.1.2.2.2.2, if_neg (nI_ge (by omega) (by omega)), gu0 (by omega), bd1_some, (r.2.1 g (by omega)).1, nI_1]
    exact ih n (g + 1) _ (by omega) (by omega)
theorem nn_all : ∀ s : Fin 37, ∀ g : Fin 5, (nn (FP.ddiv (FP.i2d (nI s.val)) (FP.i2d (nI g.val)))).isSome = true ∨ g.val = 0 := by decide +kernel
theorem c30 {xs : Nat → Int32} {L : Nat} {K : S2 → S2 → (Nat → Int64) → S2 → Option Int32} {l4 : Int32} {b1 b2 w : S2} {o : Nat → Int64} (hK : KH K) (hI : LI b1 w) : L_law_C30 xs L K l4 b1 b2 o w = some 1 := by
  obtain ⟨N, G, hG, v, r⟩ := hI
  have hN := v.1.1
  have r0 := RM_t r hN (by omega) 0
  have hI0 : LI b1 (up2 w 0 0 0) := ⟨N, G, hG, v, r0⟩
  unfold L_law_C30
  have fin : ∀ u : UInt64, X1_meanAlertness b1 b2 = some u → X2_meanAlertness w = some (u, up2 w 0 0 0) → (bd1 (X1_meanAlertness b1 b2) fun x1 => bd2 (X2_meanAlertness w) fun x3 w_4 => (if (Op.cmpValue (FP.dcmp x1 x3) CmpOp.l) = 0 then K b1 b2 o w_4 else (if (Op.cmpValue (FP.dcmp x1 x1) CmpOp.l) = 0 then some 0 else (if (Op.cmpValue (FP.dcmp x3 x3) CmpOp.l) = 0 then some 0 else K b1 b2 o w_4)))) = some 1 := by
    intro u E1 E2
    rw [E1, bd1_some, E2, bd2_some]
    by_cases z : (Op.cmpValue (FP.dcmp u u) CmpOp.l) = 0
    · rw [if_pos z]; exact hK _ _ _ _ hI0
    · rw [if_neg z, if_neg z, if_neg z]; exact hK _ _ _ _ hI0
  have E2 := meanR_L r0 (by omega) G 200 0 0 (by omega) (by omega)
  have E1 := mean_L (b2 := b2) v.1.2.2.2 (by omega) G 200 0 0 (by omega) (by omega)
  by_cases h : G = 0
  · subst h
    refine fin FP.dconst0 ?_ ?_
    · unfold X1_meanAlertness
      rw [v.1.2.2.2, if_pos (show nI 0 = 0 from rfl)]
    · unfold X2_meanAlertness
      rw [bd1_some]
      exact E2.trans (if_pos rfl)
  · have n0 : ¬ nI G = 0 := fun z => h (nI_inj (a := G) (b := 0) (by omega) (by omega) z)
    obtain ⟨s, h1, h2⟩ := sa_n v G 0 0 (by omega)
    rw [if_neg n0, show sa (b1 8) G 0 0 = nI s from h2] at E2
    rw [show sa (b1 8) G 0 0 = nI s from h2] at E1
    rcases nn_all ⟨s, by omega⟩ ⟨G, by omega⟩ with q | q
    · obtain ⟨y, hy⟩ := Option.isSome_iff_exists.mp q
      have hy' : nn (FP.ddiv (FP.i2d (nI s)) (FP.i2d (nI G))) = some y := hy
      rw [hy', bd1_some] at E1 E2
      refine fin (FP.ddiv (FP.i2d (nI s)) (FP.i2d (nI G))) ?_ ?_
      · unfold X1_meanAlertness
        rw [v.1.2.2.2, if_neg n0]
        exact E1
      · unfold X2_meanAlertness
        rw [bd1_some]
        exact E2
    · exact absurd q h
