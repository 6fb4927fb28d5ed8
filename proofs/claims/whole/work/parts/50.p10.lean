/-! PURE 10: what is foreseen -/
theorem until_r {N G t : Nat} {w b : S2} (ht : t < N) (r : RM N G w b) (v : Iv N G b) : ∃ w', X2_until w (nI t) = some (fs N G t b, w') ∧ (∀ c, RM N G w c → RM N G w' c) ∧ w' 0 = w 0 := by
  have hN := v.1.1
  have hG := v.1.2.1
  obtain ⟨w1, a1, a2, a3⟩ := keep_e w
  have r1 := KB_RM a2 r hN hG (fun j _ => by rw [a3])
  obtain ⟨w2, e1, e2⟩ := run_r ht r1 v
  obtain ⟨w3, f1, f2, f3, -⟩ := bring_e (KB_fm a2 e2)
  refine ⟨w3, ?_, fun c rc => KB_RM f2 rc hN hG f3, f2.1⟩
  unfold X2_until
  rw [a1, bd1_some, e1, bd2_some, f1, bd1_some]
theorem sleepers_r {N G k : Nat} {w b : S2} (hk : k ≤ 100) (r : RM N G w b) (v : Iv N G b) : ∃ w', X2_sleepers w (nI k) = some (ca (itm N G k b 5) 3 N 0 0, w') ∧ (∀ c, RM N G w c → RM N G w' c) ∧ w' 0 = w 0 := by
  have hN := v.1.1
  have hG := v.1.2.1
  obtain ⟨w1, a1, a2, a3⟩ := keep_e w
  have r1 := KB_RM a2 r hN hG (fun j _ => by rw [a3])
  obtain ⟨w2, e1, e2, e3⟩ := minutes_r r1 v hk
  obtain ⟨w3, f1, f2, f3, -⟩ := bring_e (KB_fm a2 e3)
  refine ⟨w3, ?_, fun c rc => KB_RM f2 rc hN hG f3, f2.1⟩
  unfold X2_sleepers
  rw [a1, bd1_some, e1, bd1_some, count_m e2 hN, bd1_some, f1, bd1_some]
theorem asleepIn_1 {N G k : Nat} {b1 b2 : S2} (k1 : 1 ≤ k) (hk : k ≤ 60) (v : Iv N G b1) : ∃ c d, X1_asleepIn b1 b2 (nI k) = some (.inr (ca (itm N G k c 5) 3 N 0 0, d)) ∧ Ag N G b1 c := by
  obtain ⟨c, e1, e2⟩ := become_e v.1 b2
  obtain ⟨d, f1, f2, f3, f4, f5⟩ := goOn_e (k := k) (Iv_ag v e2) (by omega)
  refine ⟨c, d, ?_, e2⟩
  have q : X1_requireMinutes (nI k) = some (.inr ()) := by
    unfold X1_requireMinutes
    rw [if_neg (show ¬ nI k < (1 : Int32) from fun z => by have := (nI_ltI (a := k) (b := 1) (by omega) (by omega)).mp z; omega), if_pos (show nI k ≤ (60 : Int32) from nI_le (b := 60) hk (by omega))]
  unfold X1_asleepIn
  rw [q, bx0_r, e1, bd1_some, f1, bd1_some, countIn_e f2.1, bd1_some, f4]
theorem c26 {xs : Nat → Int32} {L : Nat} {K : S2 → S2 → (Nat → Int64) → S2 → Option Int32} {l4 : Int32} {b1 b2 w : S2} {o : Nat → Int64} {a : Int32} (hK : KH K) (hI : LI b1 w) (ha : ldA xs L (l4 + 1) = some a) : L_law_C26 xs L K l4 b1 b2 o w = some 1 := by
  obtain ⟨N, G, hG, v, r⟩ := hI
  have hN := v.1.1
  have r0 := RM_t r hN (by omega) 0
  have hI0 : LI b1 (up2 w 0 0 0) := ⟨N, G, hG, v, r0⟩
  unfold L_law_C26
  rcases argT v.1 a with ⟨t, ht, rfl, e1, e2⟩ | ⟨e1, e2⟩
  · obtain ⟨c, g1, g2⟩ := become_e v.1 b2
    have vc := Iv_ag v g2
    obtain ⟨d, f1, f2, f3, f4, f5⟩ := goOn_e (k := 100) vc (by omega)
    obtain ⟨w', u1, u2, u3⟩ := until_r ht (RM_ag r0 g2) vc
    have E0 : X1_foreseenSleep b1 d (nI t) = some (fs N G t c) := foresee_e (by omega) vc (g2.1 0 (by omega)).symm (g2.2.1 5 t (by omega) (by omega) ht).symm (by rw [f4]) (by rw [f5])
    have E1 : L_minutesUntilAsleep b1 b2 o (nI t) = some (0, d, vp_updL o 0 (Int32.toInt64 (fs N G t c))) := by
      unfold L_minutesUntilAsleep X1_minutesUntilAsleep
      rw [reqT_1 e1, bx0_r, g1, bd1_some, show X0_goOn c 100 = some d from f1, bd1_some, E0, bd1_some, bc2_r, stL_0, bd1_some]
    have E2 : X2_minutesUntilAsleep w (nI t) = some (fs N G t c, w') := by
      unfold X2_minutesUntilAsleep
      rw [bd1_some, e2 _ r0.1.1, bd1_some, if_neg (by decide), u1, bd2_some]
    rw [ha, bd1_some, E1, bd3_some, bd1_some, E2, bd2_some]
    exact fin_v hK ⟨N, G, hG, v, u2 _ r0⟩ (by rw [u3]; rfl) (fun _ => rfl)
  · have E1 : L_minutesUntilAsleep b1 b2 o a = some (1, b2, o) := by
      unfold L_minutesUntilAsleep X1_minutesUntilAsleep
      rw [reqT_0 e1]; rfl
    have E2 : X2_minutesUntilAsleep w a = some (0, up2 (up2 w 0 0 0) 0 0 1) := by
      unfold X2_minutesUntilAsleep
      rw [bd1_some, e2 _ r0.1.1]; rfl
    rw [ha, bd1_some, E1, bd3_some, bd1_some, E2, bd2_some]
    exact fin_v hK (LI_t hI0 1) rfl (fun z => absurd z (by decide))
theorem c27 {xs : Nat → Int32} {L : Nat} {K : S2 → S2 → (Nat → Int64) → S2 → Option Int32} {l4 : Int32} {b1 b2 w : S2} {o : Nat → Int64} {a : Int32} (hK : KH K) (hI : LI b1 w) (ha : ldA xs L (l4 + 1) = some a) : L_law_C27 xs L K l4 b1 b2 o w = some 1 := by
  obtain ⟨N, G, hG, v, r⟩ := hI
  have hN := v.1.1
  have r0 := RM_t r hN (by omega) 0
  have hI0 : LI b1 (up2 w 0 0 0) := ⟨N, G, hG, v, r0⟩
  unfold L_law_C27
  rcases min_c a with ⟨p1, p2⟩ | ⟨p1, p2, k, k1, k2, rfl⟩
  · have E1 : L_asleepIn b1 b2 o a = some (1, b2, o) := by
      unfold L_asleepIn X1_asleepIn
      rw [p1]; rfl
    have E2 : X2_asleepIn w a = some (0, up2 (up2 w 0 0 0) 0 0 1) := by
      unfold X2_asleepIn
      rw [bd1_some, p2]; rfl
    rw [ha, bd1_some, E1, bd3_some, bd1_some, E2, bd2_some]
    exact fin_v hK (LI_t hI0 1) rfl (fun z => absurd z (by decide))
  · obtain ⟨c, d, g1, g2⟩ := asleepIn_1 (b2 := b2) k1 k2 v
    obtain ⟨w', u1, u2, u3⟩ := sleepers_r (k := k) (by omega) (RM_ag r0 g2) (Iv_ag v g2)
    have E1 : L_asleepIn b1 b2 o (nI k) = some (0, d, vp_updL o 0 (Int32.toInt64 (ca (itm N G k c 5) 3 N 0 0))) := by
      unfold L_asleepIn
      rw [g1, bc2_r, stL_0, bd1_some]
    have E2 : X2_asleepIn w (nI k) = some (ca (itm N G k c 5) 3 N 0 0, w') := by
      unfold X2_asleepIn
      rw [bd1_some, p2, bd1_some, if_neg (by decide), u1, bd2_some]
    rw [ha, bd1_some, E1, bd3_some, bd1_some, E2, bd2_some]
    exact fin_v hK ⟨N, G, hG, v, u2 _ r0⟩ (by rw [u3]; rfl) (fun _ => rfl)
theorem fsr_c {N G t : Nat} : ∀ (m k : Nat) (b : S2), fsr N G t m k b = -1 ∨ ∃ j, j ≤ k + m ∧ fsr N G t m k b = nI j := by
  intro m
  induction m with
  | zero => intro k b; exact Or.inl rfl
  | succ m ih =>
    intro k b
    simp only [fsr]
    by_cases h : b 5 t = 3
    · rw [if_pos h]; exact Or.inr ⟨k, by omega, rfl⟩
    · rw [if_neg h]
      rcases ih (k + 1) (mn N G b) with q | ⟨j, q1, q2⟩
      · exact Or.inl q
      · exact Or.inr ⟨j, by omega, q2⟩
theorem best_L {N G t : Nat} {b1 w0 : S2} (ht : t < N) (v : Iv N G b1) (r : RM N G w0 b1) : ∀ (m n x : Nat) (l2 l3 : Int32) (b2 w : S2), x + m = 10 → m < n → KB w0 w → (∀ j, j < 124 → w 3 j = w0 3 j) → ∃ y d w', X1_bestToDeclare_L27 (nI t) b1 n l2 l3 (nI x) b2 = some (.inr (y, d)) ∧ X2_bestToDeclare_L42 (nI t) n l2 l3 (nI x) w = some (y, w') ∧ KB w0 w' ∧ (∀ j, j < 124 → w' 3 j = w0 3 j) := by
  have hN := v.1.1
  have hG := v.1.2.1
  intro m
  induction m with
  | zero =>
    intro n x l2 l3 b2 w hx hn k1 k2
    obtain ⟨n, rfl⟩ := pos_fuel hn
    have e : x = 10 := by omega
    subst e
    rw [X1_bestToDeclare_L27, X2_bestToDeclare_L42, if_pos (show (9 : Int32) < nI 10 by decide), if_pos (show (9 : Int32) < nI 10 by decide)]
    exact ⟨l2, b2, w, rfl, rfl, k1, k2⟩
  | succ m ih =>
    intro n x l2 l3 b2 w hx hn k1 k2
    obtain ⟨n, rfl⟩ := pos_fuel hn
    have x9 : ¬ (9 : Int32) < nI x := le_nlt (show nI x ≤ (9 : Int32) from nI_le (b := 9) (by omega) (by omega))
    obtain ⟨c, g1, g2⟩ := become_e v.1 b2
    have vc := Iv_ag v g2
    have rw1 := RM_ag (KB_RM k1 r hN hG k2) g2
    have vd : Iv N G (up2 c 2 t (nI x)) := Iv_o vc (up2_c (by omega)) (up2_c (by omega)) (up2_c (by omega)) (up2_c (by omega)) (up2_c (by omega))
    obtain ⟨d, f1, f2, f3, f4, f5⟩ := goOn_e (k := 100) vd (by omega)
    have E0 : X1_foreseenSleep b1 d (nI t) = some (fs N G t (up2 c 2 t (nI x))) := foresee_e (by omega) vd (by rw [up2_c (by omega)]; exact (g2.1 0 (by omega)).symm) (by rw [up2_c (by omega)]; exact (g2.2.1 5 t (by omega) (by omega) ht).symm) (by rw [f4]) (by rw [f5])
    obtain ⟨w2, u1, u2⟩ := run_r ht (RM_to rw1 hN hG ht (v := nI x)) vd
    have k3 : KB w0 w2 := KB_fm (w := up2 w 3 (30 + 4 * t) (nI x)) ⟨by rw [up2_c (by omega)]; exact k1.1, by rw [up2_c (by omega)]; exact k1.2.1, by rw [up2_c (by omega)]; exact k1.2.2.1, fun j hj => by rw [up2_c (by omega)]; exact k1.2.2.2 j hj⟩ u2
    obtain ⟨w3, q1, q2, q3, -⟩ := bring_e k3
    rw [X1_bestToDeclare_L27, X2_bestToDeclare_L42, if_neg x9, if_neg x9, g1, bd1_some, stA_n (by omega) (by omega), bd1_some, show X0_goOn (up2 c 2 t (nI x)) 100 = some d from f1, bd1_some, E0, bd1_some, let2 (by omega), bd1_some, u1, bd2_some, q1, bd1_some, nI_1]
    rcases fsr_c (N := N) (G := G) (t := t) 101 0 (up2 c 2 t (nI x)) with z | ⟨j, z1, z2⟩
    · rw [show fs N G t (up2 c 2 t (nI x)) = -1 from z, if_pos n1_neg, if_pos rfl]
      exact ih n (x + 1) l2 l3 d w3 (by omega) (by omega) q2 q3
    · rw [show fs N G t (up2 c 2 t (nI x)) = nI j from z2, if_neg (nI_pos (by omega)), if_neg (nI_m1 j (by omega))]
      by_cases h : l3 ≤ nI j
      · rw [if_pos h, if_neg (le_nlt h)]
        exact ih n (x + 1) l2 l3 d w3 (by omega) (by omega) q2 q3
      · rw [if_neg h, if_pos (nle_lt h)]
        exact ih n (x + 1) (nI x) (nI j) d w3 (by omega) (by omega) q2 q3
theorem c28 {xs : Nat → Int32} {L : Nat} {K : S2 → S2 → (Nat → Int64) → S2 → Option Int32} {l4 : Int32} {b1 b2 w : S2} {o : Nat → Int64} {a : Int32} (hK : KH K) (hI : LI b1 w) (ha : ldA xs L (l4 + 1) = some a) : L_law_C28 xs L K l4 b1 b2 o w = some 1 := by
  obtain ⟨N, G, hG, v, r⟩ := hI
  have hN := v.1.1
  have r0 := RM_t r hN (by omega) 0
  have hI0 : LI b1 (up2 w 0 0 0) := ⟨N, G, hG, v, r0⟩
  unfold L_law_C28
  rcases argT v.1 a with ⟨t, ht, rfl, e1, e2⟩ | ⟨e1, e2⟩
  · by_cases h5 : b1 5 t = 0
    · obtain ⟨w1, a1, a2, a3⟩ := keep_e (up2 w 0 0 0)
      obtain ⟨y, d, w', u1, u2, u3, u4⟩ := best_L ht v r0 10 200 0 (-1) 101 b2 w1 (by omega) (by omega) a2 (fun j _ => by rw [a3])
      have E1 : L_bestToDeclare b1 b2 o (nI t) = some (0, d, vp_updL o 0 (Int32.toInt64 y)) := by
        unfold L_bestToDeclare X1_bestToDeclare
        rw [reqT_1 e1, bx0_r, ldA_n (by omega) (by omega), bd1_some, if_pos h5, show X1_bestToDeclare_L27 (nI t) b1 200 (-1) 101 0 b2 = some (.inr (y, d)) from u1, bc2_r, stL_0, bd1_some]
      have E2 : X2_bestToDeclare w (nI t) = some (y, w') := by
        unfold X2_bestToDeclare
        rw [bd1_some, e2 _ r0.1.1, bd1_some, if_neg (by decide), tr0 (by omega), bd1_some, (r0.2.2.1 t ht).2.2.1, if_pos h5, a1, bd1_some]
        exact u2
      rw [ha, bd1_some, E1, bd3_some, bd1_some, E2, bd2_some]
      exact fin_v hK ⟨N, G, hG, v, KB_RM u3 r0 hN (by omega) u4⟩ (by rw [u3.1]; rfl) (fun _ => rfl)
    · have E1 : L_bestToDeclare b1 b2 o (nI t) = some (0, b2, vp_updL o 0 (Int32.toInt64 (-1))) := by
        unfold L_bestToDeclare X1_bestToDeclare
        rw [reqT_1 e1, bx0_r, ldA_n (by omega) (by omega), bd1_some, if_neg h5, bc2_r, stL_0, bd1_some]
      have E2 : X2_bestToDeclare w (nI t) = some (-1, up2 w 0 0 0) := by
        unfold X2_bestToDeclare
        rw [bd1_some, e2 _ r0.1.1, bd1_some, if_neg (by decide), tr0 (by omega), bd1_some, (r0.2.2.1 t ht).2.2.1, if_neg h5]
      rw [ha, bd1_some, E1, bd3_some, bd1_some, E2, bd2_some]
      exact fin_v hK hI0 rfl (fun _ => rfl)
  · have E1 : L_bestToDeclare b1 b2 o a = some (1, b2, o) := by
      unfold L_bestToDeclare X1_bestToDeclare
      rw [reqT_0 e1]; rfl
    have E2 : X2_bestToDeclare w a = some (0, up2 (up2 w 0 0 0) 0 0 1) := by
      unfold X2_bestToDeclare
      rw [bd1_some, e2 _ r0.1.1]; rfl
    rw [ha, bd1_some, E1, bd3_some, bd1_some, E2, bd2_some]
    exact fin_v hK (LI_t hI0 1) rfl (fun z => absurd z (by decide))
theorem hires_L {N G x : Nat} {b1 : S2} {K : S2 → Option (Int32 × S2)} {K' : S2 → Option (Int32 × S2)} {p q : Int32} (hx : G + x ≤ 8) : ∀ (m n j : Nat) (b w : S2), j + m = x → m < n → Iv N (G + j) b → RM N (G + j) w b → ∃ b' w', X1_guardsWanted_L20 K (nI x) b1 n (nI j) b = K b' ∧ X2_wanted_L28 K' p (nI x) q n (nI j) w = K' w' ∧ Iv N (G + x) b' ∧ RM N (G + x) w' b' ∧ fm w w' := by
  intro m
  induction m with
  | zero =>
    intro n j b w hj hn v r
    obtain ⟨n, rfl⟩ := pos_fuel hn
    have e : j = x := by omega
    subst e
    rw [X1_guardsWanted_L20, X2_wanted_L28, if_pos (nI_le (by omega) (by omega)), if_pos (nI_le (by omega) (by omega))]
    exact ⟨b, w, rfl, rfl, v, r, fm_rf w⟩
  | succ m ih =>
    intro n j b w hj hn v r
    obtain ⟨n, rfl⟩ := pos_fuel hn
    obtain ⟨b', w', a1, a2, a3, a4, a5⟩ := hire_r r v (by omega)
    rw [X1_guardsWanted_L20, X2_wanted_L28, if_neg (nI_ge (by omega) (by omega)), if_neg (nI_ge (by omega) (by omega)), a1, bd1_some, a2, bd1_some, nI_1]
    obtain ⟨b2, w2, c1, c2, c3, c4, c5⟩ := ih n (j + 1) b' w' (by omega) (by omega) a3 a4
    exact ⟨b2, w2, c1, c2, c3, c4, fm_tr a5 c5⟩
theorem wanted_L {N G : Nat} {b1 w0 : S2} (hG : G ≤ 4) (v : Iv N G b1) (r : RM N G w0 b1) : ∀ (m n x : Nat) (b2 w : S2), x + m = 5 → m < n → KB w0 w → (∀ j, j < 124 → w 3 j = w0 3 j) → ∃ y d w', X1_guardsWanted_L2 b1 n (nI x) b2 = some (y, d) ∧ X2_wanted_L8 n (-1) (nI x) w = some (y, w') ∧ KB w0 w' ∧ (∀ j, j < 124 → w' 3 j = w0 3 j) := by
  have hN := v.1.1
  intro m
  induction m with
  | zero =>
    intro n x b2 w hx hn k1 k2
    obtain ⟨n, rfl⟩ := pos_fuel hn
    have e : x = 5 := by omega
    subst e
    rw [X1_guardsWanted_L2, X2_wanted_L8, if_pos (show (4 : Int32) < nI 5 by decide), if_pos (show (4 : Int32) < nI 5 by decide)]
    exact ⟨-1, b2, w, rfl, rfl, k1, k2⟩
  | succ m ih =>
    intro n x b2 w hx hn k1 k2
    obtain ⟨n, rfl⟩ := pos_fuel hn
    have x4 : ¬ (4 : Int32) < nI x := le_nlt (show nI x ≤ (4 : Int32) from nI_le (b := 4) (by omega) (by omega))
    obtain ⟨c, g1, g2⟩ := become_e v.1 b2
    have vc := Iv_ag v g2
    have rw0 := KB_RM k1 r hN (by omega) k2
    have rw1 := RM_ag rw0 g2
    rw [X1_guardsWanted_L2, X2_wanted_L8, if_neg x4, if_neg x4, if_pos rfl, g1, bd1_some, ld3_1, bd1_some, rw0.1.2.2.1]
    obtain ⟨b', w', h1, h2, h3, h4, h5⟩ := hires_L (N := N) (G := G) (x := x) (b1 := b1) (K := fun b2_7 => bd1 (X0_goOn b2_7 60) fun b2_8 => (if (b2_8 0 1) = (b1 0 1) then some (nI x, b2_8) else X1_guardsWanted_L2 b1 n (nI x + 1) b2_8)) (K' := fun w_10 => bd1 (X2_minutesOn w_10 60) fun w_11 => bd1 (ldA (w_11 3) 124 1) fun x14 => (if x14 = b1 0 1 then bd1 (X2_bringBack w_11) fun w_18 => X2_wanted_L8 n (nI x) (nI x + 1) w_18 else bd1 (X2_bringBack w_11) fun w_16 => X2_wanted_L8 n (-1) (nI x + 1) w_16)) (p := -1) (q := b1 0 1) (by omega) x 200 0 c w (by omega) (by omega) vc rw1
    obtain ⟨d, f1, f2, f3, f4, f5⟩ := goOn_e (k := 60) h3 (by omega)
    obtain ⟨w2, m1, m2, m3⟩ := minutes_r (k := 60) h4 h3 (by omega)
    obtain ⟨w3, q1, q2, q3, -⟩ := bring_e (KB_fm (KB_fm k1 h5) m3)
    have h1' := h1
    have h2' := h2
    rw [show X1_guardsWanted_L20 _ (nI x) b1 200 0 c = _ from h1', show X2_wanted_L28 _ (-1) (nI x) (b1 0 1) 200 0 w = _ from h2', show X0_goOn b' 60 = some d from f1, bd1_some, show X2_minutesOn w' 60 = some w2 from m1, bd1_some, ld3_1, bd1_some, m2.1.2.2.1, f3]
    by_cases z : itm N (G + x) 60 b' 0 1 = b1 0 1
    · rw [if_pos z, if_pos z, q1, bd1_some]
      obtain ⟨n, rfl⟩ := pos_fuel (m := m) (n := n) (by omega)
      refine ⟨nI x, d, w3, rfl, ?_, q2, q3⟩
      rw [X2_wanted_L8]
      by_cases y : (4 : Int32) < nI x + 1
      · rw [if_pos y]
      · rw [if_neg y, if_neg (nI_m1 x (by omega))]
    · rw [if_neg z, if_neg z, q1, bd1_some, nI_1]
      exact ih n (x + 1) d w3 (by omega) (by omega) q2 q3
theorem wanted_r {N G : Nat} {b1 w : S2} (hG : G ≤ 4) (v : Iv N G b1) (r : RM N G w b1) (b2 : S2) : ∃ y d w', X1_guardsWanted b1 b2 = some (y, d) ∧ X2_wanted w = some (y, w') ∧ (∀ c, RM N G w c → RM N G w' c) := by
  have hN := v.1.1
  obtain ⟨w1, a1, a2, a3⟩ := keep_e w
  obtain ⟨y, d, w', u1, u2, u3, u4⟩ := wanted_L hG v r 5 200 0 b2 w1 (by omega) (by omega) a2 (fun j _ => by rw [a3])
  refine ⟨y, d, w', u1, ?_, fun c rc => KB_RM u3 rc hN (by omega) u4⟩
  unfold X2_wanted
  rw [a1, bd1_some]
  exact u2
theorem c29 {xs : Nat → Int32} {L : Nat} {K : S2 → S2 → (Nat → Int64) → S2 → Option Int32} {l4 : Int32} {b1 b2 w : S2} {o : Nat → Int64} (hK : KH K) (hI : LI b1 w) : L_law_C29 xs L K l4 b1 b2 o w = some 1 := by
  obtain ⟨N, G, hG, v, r⟩ := hI
  obtain ⟨y, d, w', u1, u2, u3⟩ := wanted_r hG v r b2
  unfold L_law_C29 X2_guardsWanted
  rw [u1, bd2_some, u2, bd2_some, told_e, bd2_some, bd2_some, if_pos rfl]
  exact hK _ _ _ _ (LI_t ⟨N, G, hG, v, u3 _ r⟩ 0)
