/-! PURE 5: the reference's minute against the class's -/
theorem travel_r {N G : Nat} {w b : S2} (h : RM N G w b) (v : Iv N G b) {t : Nat} (ht : t < N) : ∃ w', X2_travel w (nI t) = some w' ∧ RM N G w' (adv1 b t) ∧ fr w w' := by
  have hN := v.1.1
  have hG := v.1.2.1
  obtain ⟨-, -, q5, -, -, q6⟩ := h.2.2.1 t ht
  unfold X2_travel adv1
  rw [tr0 (by omega), bd1_some, q5]
  by_cases h5 : b 5 t = 2
  · obtain ⟨k, k1, k2, k3⟩ := v.2.2 t ht h5
    have e : b 6 t - 1 = nI (k - 1) := by
      rw [k3]
      obtain ⟨k, rfl⟩ : ∃ k', k = k' + 1 := ⟨k - 1, by omega⟩
      exact nI_pred k
    have r1 : RM N G (up2 w 3 (31 + 4 * t) (b 6 t - 1)) (up2 b 6 t (b 6 t - 1)) := RM_go h hN hG ht
    rw [if_pos h5, if_pos h5, tr3 (by omega), bd1_some, let3 (by omega), bd1_some, tr3 (by omega), bd1_some, up2_e (by omega), q6 h5]
    by_cases h0 : 0 < b 6 t - 1
    · have n0 : ¬ b 6 t - 1 = 0 := by intro z; rw [z] at h0; exact absurd h0 (by decide)
      rw [if_pos h0, if_neg n0]
      exact ⟨_, rfl, r1, fr_up _ _ _⟩
    · have e0 : b 6 t - 1 = 0 := by
        rw [e] at h0 ⊢
        rcases Nat.eq_zero_or_pos (k - 1) with z | z
        · rw [z]; rfl
        · exact absurd (nI_lt (a := 0) z (by omega)) h0
      rw [if_neg h0, if_pos e0, let0 (by omega), bd1_some]
      refine ⟨_, rfl, ?_, fr_u (fr_up _ _ _) _ _⟩
      exact RM_si (RM_st r1 hN hG ht (fun z => absurd z (by decide))) hN hG
  · rw [if_neg h5, if_neg h5]
    exact ⟨w, rfl, h, fr_rf w⟩
theorem listen_r {N G : Nat} {w b : S2} (h : RM N G w b) (v : Iv N G b) {t : Nat} (ht : t < N) : ∃ w', X2_listen w (nI t) = some w' ∧ RM N G w' (sh1 b t) ∧ fr w w' := by
  have hN := v.1.1
  have hG := v.1.2.1
  obtain ⟨-, -, q5, q4, -, -⟩ := h.2.2.1 t ht
  unfold X2_listen sh1
  rw [tr0 (by omega), bd1_some, q5]
  by_cases h5 : b 5 t = 0
  · have r1 : RM N G (up2 w 3 (29 + 4 * t) (b 4 t - 1)) (up2 b 4 t (b 4 t - 1)) := RM_lu h hN hG ht
    rw [if_pos h5, if_pos h5, tr1 (by omega), bd1_some, let1 (by omega), bd1_some, tr1 (by omega), bd1_some, up2_e (by omega), q4]
    by_cases h0 : 0 < b 4 t - 1
    · rw [if_pos h0, if_neg (by rw [Int32.lt_iff_toInt_lt] at h0; rw [Int32.le_iff_toInt_le]; omega)]
      exact ⟨_, rfl, r1, fr_up _ _ _⟩
    · rw [if_neg h0, if_pos (by rw [Int32.lt_iff_toInt_lt] at h0; rw [Int32.le_iff_toInt_le]; omega), let0 (by omega), bd1_some, ld3_1, bd1_some, st3_1, bd1_some]
      refine ⟨_, rfl, ?_, fr_u (fr_u (fr_up _ _ _) _ _) _ _⟩
      have r2 := RM_st r1 hN hG ht (v := 4) (fun z => absurd z (by decide))
      have e : (up2 (up2 w 3 (29 + 4 * t) (b 4 t - 1)) 3 (28 + 4 * t) 4) 3 1 = b 0 1 := by
        rw [r2.1.2.2.1, up2_n (by omega), up2_n (by omega)]
      rw [e]
      exact RM_ex r2 hN hG
  · rw [if_neg h5, if_neg h5]
    exact ⟨w, rfl, h, fr_rf w⟩
theorem begin_r {N G : Nat} {w b : S2} (h : RM N G w b) (v : Iv N G b) {g : Nat} (hg : g < G) (h9 : b 9 g = -1) : ∃ w', X2_begin w (nI g) = some w' ∧ RM N G w' (wrk N b g) ∧ fr w w' := by
  have hN := v.1.1
  have hG := v.1.2.1
  unfold X2_begin wrk
  rw [if_pos h9, first_m h hN, bd1_some]
  rcases fa_cases (b 5) N 0 with ⟨f1, f2⟩ | ⟨i, f1, f2, f3, f4⟩
  · rw [if_pos f1, if_pos f1, gu0 (by omega), bd1_some, post0 (by omega), bd1_some, mna_r, (h.2.1 g hg).1]
    exact ⟨_, rfl, RM_al h hN hG hg, fr_up _ _ _⟩
  · have hi : i < N := by omega
    have r1 : RM N G (up2 w 3 (5 + 3 * g) (nI i)) (up2 b 9 g (nI i)) := RM_wh h hN hG hg
    have e : stime N (up2 b 9 g (nI i)) i = stime N b i := by
      unfold stime
      rw [up2_c (by omega), up2_c (by omega), up2_c (by omega)]
    rw [f4, if_neg (nI_m1 i (by omega)), if_neg (nI_m1 i (by omega)), nI_clamp (by omega), post1 (by omega), bd1_some, takes_m r1 hN hi, bd1_some, post2 (by omega), bd1_some, let0 (by omega), bd1_some, e]
    refine ⟨_, rfl, ?_, fr_u (fr_u (fr_up _ _ _) _ _) _ _⟩
    exact RM_st (RM_le r1 hN hG hg) hN hG hi (fun z => absurd z (by decide))
theorem son_r {N G : Nat} {w b : S2} (h : RM N G w b) (v : Iv N G b) {g t : Nat} (hg : g < G) (ht : t < N) (h9 : b 9 g = nI t) : ∃ w', X2_searchOn w (nI g) = some w' ∧ RM N G w' (son b g t) ∧ fr w w' := by
  have hN := v.1.1
  have hG := v.1.2.1
  unfold X2_searchOn son
  have r1 : RM N G (up2 w 3 (6 + 3 * g) (b 10 g - 1)) (up2 b 10 g (b 10 g - 1)) := RM_le h hN hG hg
  rw [gu2 (by omega), bd1_some, post2 (by omega), bd1_some, gu2 (by omega), bd1_some, (h.2.1 g hg).2.2, up2_e (by omega)]
  by_cases hl : b 10 g - 1 ≤ 0
  · have ef : fnd (up2 b 10 g (b 10 g - 1)) g t = fnd b g t := by
      unfold fnd
      rw [up2_c (by omega), up2_c (by omega), up2_c (by omega)]
    have e9 : (up2 w 3 (6 + 3 * g) (b 10 g - 1)) 3 (5 + 3 * g) = nI t := by
      rw [up2_n (by omega), (h.2.1 g hg).2.1, h9]
    rw [if_pos hl, if_pos hl, gu1 (by omega), bd1_some, e9, finds_m r1 hN hG ht hg, bd1_some, ef]
    by_cases hf : fnd b g t = 0
    · rw [if_pos hf, if_pos hf, if_pos hf, let0 (by omega), bd1_some, let3 (by omega), bd1_some, post1 (by omega), bd1_some, gu0 (by omega), bd1_some, post0 (by omega), bd1_some, hid_r]
      have r2 := RM_wh (RM_sg r1 hN hG ht (u := 5)) hN hG hg (v := -1)
      refine ⟨_, rfl, ?_, fr_u (fr_u (fr_u (fr_u (fr_up _ _ _) _ _) _ _) _ _) _ _⟩
      have e8 := (r2.2.1 g hg).1
      rw [e8, up2_c (show (8 : Nat) ≠ 9 by omega), up2_c (show (8 : Nat) ≠ 6 by omega), up2_c (show (8 : Nat) ≠ 5 by omega), up2_c (show (8 : Nat) ≠ 10 by omega)]
      exact RM_al r2 hN hG hg
    · rw [if_neg hf, if_neg hf, ld3_2, bd1_some, hidden_m r1 hN ht, bd1_some, st3_2, bd1_some, if_neg hf, let0 (by omega), bd1_some, let3 (by omega), bd1_some, post1 (by omega), bd1_some, gu0 (by omega), bd1_some, post0 (by omega), bd1_some, hid_r]
      have e2 : (up2 w 3 (6 + 3 * g) (b 10 g - 1)) 3 2 = b 0 2 := by
        rw [r1.1.2.2.2.1, up2_n (by omega)]
      rw [e2, up2_c (show (1 : Nat) ≠ 10 by omega), up2_c (show (2 : Nat) ≠ 10 by omega)]
      have r2 := RM_st (RM_pd r1 hN hG (v := b 0 2 + 3 * hid (b 1 t) (b 2 t))) hN hG ht (v := 4) (fun z => absurd z (by decide))
      have r3 := RM_wh (RM_gx r2 hN hG ht (v := 5) (by rw [up2_e (by omega)]; decide)) hN hG hg (v := -1)
      refine ⟨_, rfl, ?_, fr_u (fr_u (fr_u (fr_u (fr_u (fr_up _ _ _) _ _) _ _) _ _) _ _) _ _⟩
      have e8 := (r3.2.1 g hg).1
      rw [e8, up2_c (show (8 : Nat) ≠ 9 by omega), up2_c (show (8 : Nat) ≠ 5 by omega), up2_c (show (8 : Nat) ≠ 0 by omega), up2_c (show (8 : Nat) ≠ 10 by omega)]
      exact RM_al r3 hN hG hg
  · rw [if_neg hl, if_neg hl]
    exact ⟨_, rfl, r1, fr_up _ _ _⟩
theorem adv1_9 (b : S2) (t : Nat) : adv1 b t 9 = b 9 := by
  unfold adv1
  split
  · split
    · rw [up2_c (by omega)]
    · rw [up2_c (by omega), up2_c (by omega), up2_c (by omega)]
  · rfl
theorem sh1_9 (b : S2) (t : Nat) : sh1 b t 9 = b 9 := by
  unfold sh1
  split
  · split
    · rw [up2_c (by omega)]
    · rw [up2_c (by omega), up2_c (by omega), up2_c (by omega)]
  · rfl
theorem itn_9 {f : S2 → Nat → S2} (hf : ∀ b t, f b t 9 = b 9) : ∀ (m t : Nat) (b : S2), itn f m t b 9 = b 9 := by
  intro m
  induction m with
  | zero => intro t b; rfl
  | succ m ih => intro t b; show itn f m (t + 1) (f b t) 9 = b 9; rw [ih, hf]
theorem son_9 {b : S2} {g t g' : Nat} (h : g' ≠ g) : son b g t 9 g' = b 9 g' := by
  unfold son
  split
  · split
    · rw [up2_c (by omega), up2_n (by omega), up2_c (by omega), up2_c (by omega), up2_c (by omega)]
    · rw [up2_c (by omega), up2_n (by omega), up2_c (by omega), up2_c (by omega), up2_c (by omega)]
  · rw [up2_c (by omega)]
theorem wrk_9 {N : Nat} {b : S2} {g g' : Nat} (h : g' ≠ g) : wrk N b g 9 g' = b 9 g' := by
  unfold wrk
  split
  · split
    · rw [up2_c (by omega)]
    · unfold beg; rw [up2_c (by omega), up2_c (by omega), up2_n (by omega)]
  · exact son_9 h
theorem mguards_L {N G : Nat} : ∀ (m n g : Nat) (w b : S2), RM N G w b → Iv N G b → (∀ g', g ≤ g' → g' < G → w 5 g' = if b 9 g' = -1 then 1 else 0) → g + m = G → m < n → ∃ w', X2_minuteOn_L83 n (nI g) w = some w' ∧ RM N G w' (up2 (itn (wrk N) m g b) 0 0 ((itn (wrk N) m g b) 0 0 + 1)) ∧ fr w w' := by
  intro m
  induction m with
  | zero =>
    intro n g w b h v hfr hg hn
    obtain ⟨n, rfl⟩ := pos_fuel hn
    have hN := v.1.1
    have hG := v.1.2.1
    rw [X2_minuteOn_L83, ld3_3, bd1_some, h.1.2.2.2.2, if_pos (nI_le (by omega) (by omega)), ld3_0, bd1_some, st3_0, bd1_some, h.1.2.1]
    exact ⟨_, rfl, RM_ck h hN hG, fr_up _ _ _⟩
  | succ m ih =>
    intro n g w b h v hfr hg hn
    obtain ⟨n, rfl⟩ := pos_fuel hn
    have hN := v.1.1
    have hG := v.1.2.1
    have hgG : g < G := by omega
    obtain ⟨-, hw⟩ := v.2.1.1 g hgG
    rw [X2_minuteOn_L83, ld3_3, bd1_some, h.1.2.2.2.2, if_neg (nI_ge hgG (by omega)), ldA_n (by omega) (by omega), bd1_some, hfr g (by omega) hgG]
    have st : ∃ w', (if (if b 9 g = -1 then (1 : Int32) else 0) = 0 then bd1 (X2_searchOn w (nI g)) fun w_16 => X2_minuteOn_L83 n (nI g + 1) w_16 else bd1 (X2_begin w (nI g)) fun w_18 => X2_minuteOn_L83 n (nI g + 1) w_18) = X2_minuteOn_L83 n (nI (g + 1)) w' ∧ RM N G w' (wrk N b g) ∧ fr w w' := by
      by_cases h9 : b 9 g = -1
      · obtain ⟨w', e1, e2, e3⟩ := begin_r h v hgG h9
        rw [if_pos h9, if_neg (by decide), e1, bd1_some, nI_1]
        exact ⟨w', rfl, e2, e3⟩
      · rcases hw with q | ⟨t, q1, q2, q3⟩
        · exact absurd q h9
        · obtain ⟨w', e1, e2, e3⟩ := son_r h v hgG q1 q2
          rw [if_neg h9, if_pos rfl, e1, bd1_some, nI_1]
          refine ⟨w', rfl, ?_, e3⟩
          unfold wrk
          rw [if_neg h9, q2, nI_clamp (by omega)]
          exact e2
    obtain ⟨w', e1, e2, e3⟩ := st
    rw [e1]
    obtain ⟨w2, f1, f2, f3⟩ := ih n (g + 1) w' (wrk N b g) e2 (wrk_iv v hgG) (fun g' h1 h2 => by rw [e3.2.2.2.2, wrk_9 (by omega)]; exact hfr g' (by omega) h2) (by omega) (by omega)
    exact ⟨w2, f1, f2, fr_tr e3 f3⟩
theorem mlisten_L {N G : Nat} : ∀ (m n t : Nat) (w b : S2), RM N G w b → Iv N G b → t + m = N → m < n → ∃ w', X2_minuteOn_L62 n (nI t) w = X2_minuteOn_L83 200 0 w' ∧ RM N G w' (itn sh1 m t b) ∧ fr w w' := by
  intro m
  induction m with
  | zero =>
    intro n t w b h v ht hn
    obtain ⟨n, rfl⟩ := pos_fuel hn
    have hN := v.1.1
    rw [X2_minuteOn_L62, h.1.1, if_pos (nI_le (by omega) (by omega))]
    exact ⟨w, rfl, h, fr_rf w⟩
  | succ m ih =>
    intro n t w b h v ht hn
    obtain ⟨n, rfl⟩ := pos_fuel hn
    have hN := v.1.1
    obtain ⟨w', e1, e2, e3⟩ := listen_r h v (t := t) (by omega)
    rw [X2_minuteOn_L62, h.1.1, if_neg (nI_ge (by omega) (by omega)), e1, bd1_some, nI_1]
    obtain ⟨w2, f1, f2, f3⟩ := ih n (t + 1) w' _ e2 (sh1_iv v (by omega)) (by omega) (by omega)
    exact ⟨w2, f1, f2, fr_tr e3 f3⟩
theorem mtravel_L {N G : Nat} : ∀ (m n t : Nat) (w b : S2), RM N G w b → Iv N G b → t + m = N → m < n → ∃ w', X2_minuteOn_L41 n (nI t) w = X2_minuteOn_L62 200 0 w' ∧ RM N G w' (itn adv1 m t b) ∧ fr w w' := by
  intro m
  induction m with
  | zero =>
    intro n t w b h v ht hn
    obtain ⟨n, rfl⟩ := pos_fuel hn
    have hN := v.1.1
    rw [X2_minuteOn_L41, h.1.1, if_pos (nI_le (by omega) (by omega))]
    exact ⟨w, rfl, h, fr_rf w⟩
  | succ m ih =>
    intro n t w b h v ht hn
    obtain ⟨n, rfl⟩ := pos_fuel hn
    have hN := v.1.1
    obtain ⟨w', e1, e2, e3⟩ := travel_r h v (t := t) (by omega)
    rw [X2_minuteOn_L41, h.1.1, if_neg (nI_ge (by omega) (by omega)), e1, bd1_some, nI_1]
    obtain ⟨w2, f1, f2, f3⟩ := ih n (t + 1) w' _ e2 (adv1_iv v (by omega)) (by omega) (by omega)
    exact ⟨w2, f1, f2, fr_tr e3 f3⟩
/-- all but the row and the row 'free' stays -/
def fm (w w' : S2) : Prop := w' 0 = w 0 ∧ w' 1 = w 1 ∧ w' 2 = w 2 ∧ w' 4 = w 4
theorem fm_rf (w : S2) : fm w w := ⟨rfl, rfl, rfl, rfl⟩
theorem fm_tr {a b c : S2} (h : fm a b) (g : fm b c) : fm a c := ⟨g.1.trans h.1, g.2.1.trans h.2.1, g.2.2.1.trans h.2.2.1, g.2.2.2.trans h.2.2.2⟩
theorem fm_fr {a b : S2} (h : fr a b) : fm a b := ⟨h.1, h.2.1, h.2.2.1, h.2.2.2.1⟩
theorem bl0 : bl 0 = some 0 := rfl
theorem bl1 : bl 1 = some 1 := rfl
theorem mfree_L {N G : Nat} {b : S2} (v : Iv N G b) : ∀ (m n g : Nat) (w : S2), RM N G w b → (∀ g', g' < g → w 5 g' = if b 9 g' = -1 then 1 else 0) → g + m = G → m < n → ∃ w', X2_minuteOn_L2 n (nI g) w = X2_minuteOn_L41 200 0 w' ∧ RM N G w' b ∧ fm w w' ∧ ∀ g', g' < G → w' 5 g' = if b 9 g' = -1 then 1 else 0 := by
  have hN := v.1.1
  have hG := v.1.2.1
  intro m
  induction m with
  | zero =>
    intro n g w h hfr hg hn
    obtain ⟨n, rfl⟩ := pos_fuel hn
    rw [X2_minuteOn_L2, ld3_3, bd1_some, h.1.2.2.2.2, if_pos (nI_le (by omega) (by omega))]
    exact ⟨w, rfl, h, fm_rf w, fun g' hg' => hfr g' (by omega)⟩
  | succ m ih =>
    intro n g w h hfr hg hn
    obtain ⟨n, rfl⟩ := pos_fuel hn
    rw [X2_minuteOn_L2, ld3_3, bd1_some, h.1.2.2.2.2, if_neg (nI_ge (by omega) (by omega)), gu1 (by omega), bd1_some, (h.2.1 g (by omega)).2.1]
    have up : ∀ u : Int32, RM N G (up2 w 5 g u) b := fun u => RM_w h hN hG (by rw [up2_n (by omega)]) (up2_c (by omega)) (up2_c (by omega)) (fun j _ => by rw [up2_n (by omega)])
    have fu : ∀ u : Int32, fm w (up2 w 5 g u) := fun u => ⟨up2_c (by omega), up2_c (by omega), up2_c (by omega), up2_c (by omega)⟩
    by_cases h9 : b 9 g = -1
    · rw [if_pos h9, bl1, bd1_some, stA_n (by omega) (by omega), bd1_some, nI_1]
      obtain ⟨w2, f1, f2, f3, f4⟩ := ih n (g + 1) (up2 w 5 g 1) (up 1) (fun g' hg' => by
        by_cases e : g' = g
        · subst e; rw [up2_e (by omega), if_pos h9]
        · rw [up2_n (by omega)]; exact hfr g' (by omega)) (by omega) (by omega)
      exact ⟨w2, f1, f2, fm_tr (fu 1) f3, f4⟩
    · rw [if_neg h9, bl0, bd1_some, stA_n (by omega) (by omega), bd1_some, nI_1]
      obtain ⟨w2, f1, f2, f3, f4⟩ := ih n (g + 1) (up2 w 5 g 0) (up 0) (fun g' hg' => by
        by_cases e : g' = g
        · subst e; rw [up2_e (by omega), if_neg h9]
        · rw [up2_n (by omega)]; exact hfr g' (by omega)) (by omega) (by omega)
      exact ⟨w2, f1, f2, fm_tr (fu 0) f3, f4⟩
theorem minute_r {N G : Nat} {w b : S2} (h : RM N G w b) (v : Iv N G b) : ∃ w', X2_minuteOn w = some w' ∧ RM N G w' (mn N G b) ∧ fm w w' := by
  have hN := v.1.1
  have hG := v.1.2.1
  obtain ⟨w1, a1, a2, a3, a4⟩ := mfree_L v G 200 0 w h (fun g' hg' => absurd hg' (by omega)) (by omega) (by omega)
  obtain ⟨w2, b1, b2, b3⟩ := mtravel_L N 200 0 w1 b a2 v (by omega) (by omega)
  have v1 : Iv N G (itn adv1 N 0 b) := itn_iv (fun b g hg hb => adv1_iv hb hg) N 0 _ (by omega) v
  obtain ⟨w3, c1, c2, c3⟩ := mlisten_L N 200 0 w2 _ b2 v1 (by omega) (by omega)
  have v2 : Iv N G (itn sh1 N 0 (itn adv1 N 0 b)) := itn_iv (fun b g hg hb => sh1_iv hb hg) N 0 _ (by omega) v1
  obtain ⟨w4, d1, d2, d3⟩ := mguards_L G 200 0 w3 _ c2 v2 (fun g' _ hg' => by rw [c3.2.2.2.2, b3.2.2.2.2, itn_9 sh1_9, itn_9 adv1_9]; exact a4 g' hg') (by omega) (by omega)
  refine ⟨w4, ?_, d2, fm_tr a3 (fm_tr (fm_fr b3) (fm_tr (fm_fr c3) (fm_fr d3)))⟩
  unfold X2_minuteOn
  have z : (0 : Int32) = nI 0 := rfl
  rw [z, a1, z, b1, z, c1, z, d1]
