/-! PURE 3: guards at work; the minute -/
theorem son_iv {N G : Nat} {b : S2} (h : Iv N G b) {g t : Nat} (hg : g < G) (ht : t < N) (h9 : b 9 g = nI t) : Iv N G (son b g t) := by
  obtain ⟨hd, ⟨g1, g2⟩, tr⟩ := h
  have hN := hd.1
  obtain ⟨⟨a, ha, ea⟩, -⟩ := g1 g hg
  unfold son
  by_cases hl : b 10 g - 1 ≤ 0
  · rw [if_pos hl]
    -- both ends: what they share
    have key : ∀ c : S2, c 0 3 = b 0 3 → c 0 4 = b 0 4 → (∀ s, s ≠ t → c 5 s = b 5 s) → c 5 t ≠ 1 → (∀ g', g' ≠ g → c 9 g' = b 9 g') → c 9 g = -1 → (∀ g', g' ≠ g → c 8 g' = b 8 g') → c 8 g = mxa (b 8 g) → (∀ s, s ≠ t → c 6 s = b 6 s) → (c 5 t = 2 → c 6 t = 5) → Iv N G c := by
      intro c c3 c4 c5 c5t c9 c9g c8 c8g c6 c6t
      refine ⟨⟨hd.1, hd.2.1, by rw [c3]; exact hd.2.2.1, by rw [c4]; exact hd.2.2.2⟩, ⟨fun g' hg' => ?_, fun p q s hp hq hs e1 e2 => ?_⟩, fun s hs h => ?_⟩
      · by_cases e : g' = g
        · subst e
          rw [c8g, c9g, ea]
          exact ⟨mxa_n ha, Or.inl rfl⟩
        · rw [c8 g' e, c9 g' e]
          refine ⟨(g1 g' hg').1, ?_⟩
          rcases (g1 g' hg').2 with q | ⟨s, q1, q2, q3⟩
          · exact Or.inl q
          · refine Or.inr ⟨s, q1, q2, ?_⟩
            rw [c5 s (fun es => e (g2 g' g t hg' hg ht (by rw [q2, es]) h9))]
            exact q3
      · have n1 : ∀ q', q' < G → c 9 q' = nI s → q' ≠ g := by
          intro q' _ e es
          rw [es, c9g] at e
          exact nI_m1 s (by omega) e.symm
        rw [c9 p (n1 p hp e1)] at e1
        rw [c9 q (n1 q hq e2)] at e2
        exact g2 p q s hp hq hs e1 e2
      · by_cases e : s = t
        · subst e
          exact ⟨5, by omega, by omega, c6t h⟩
        · rw [c6 s e]
          rw [c5 s e] at h
          exact tr s hs h
    by_cases hf : fnd b g t = 0
    · rw [if_pos hf]
      refine key _ ?_ ?_ (fun s hs => ?_) ?_ (fun g' hg' => ?_) ?_ (fun g' hg' => ?_) ?_ (fun s hs => ?_) (fun _ => ?_)
      · rw [up2_c (by omega), up2_c (by omega), up2_c (by omega), up2_c (by omega), up2_c (by omega)]
      · rw [up2_c (by omega), up2_c (by omega), up2_c (by omega), up2_c (by omega), up2_c (by omega)]
      · rw [up2_c (by omega), up2_c (by omega), up2_c (by omega), up2_n (by omega), up2_c (by omega)]
      · rw [up2_c (by omega), up2_c (by omega), up2_c (by omega), up2_e (by omega)]; decide
      · rw [up2_c (by omega), up2_n (by omega), up2_c (by omega), up2_c (by omega), up2_c (by omega)]
      · rw [up2_c (by omega), up2_e (by omega)]
      · rw [up2_n (by omega), up2_c (by omega), up2_c (by omega), up2_c (by omega), up2_c (by omega)]
      · rw [up2_e (by omega)]
      · rw [up2_c (by omega), up2_c (by omega), up2_n (by omega), up2_c (by omega), up2_c (by omega)]
      · rw [up2_c (by omega), up2_c (by omega), up2_e (by omega)]
    · rw [if_neg hf]
      refine key _ ?_ ?_ (fun s hs => ?_) ?_ (fun g' hg' => ?_) ?_ (fun g' hg' => ?_) ?_ (fun s hs => ?_) (fun h => ?_)
      · rw [up2_c (by omega), up2_c (by omega), up2_c (by omega), up2_n (by omega), up2_c (by omega)]
      · rw [up2_c (by omega), up2_c (by omega), up2_c (by omega), up2_n (by omega), up2_c (by omega)]
      · rw [up2_c (by omega), up2_c (by omega), up2_n (by omega), up2_c (by omega), up2_c (by omega)]
      · rw [up2_c (by omega), up2_c (by omega), up2_e (by omega)]; decide
      · rw [up2_c (by omega), up2_n (by omega), up2_c (by omega), up2_c (by omega), up2_c (by omega)]
      · rw [up2_c (by omega), up2_e (by omega)]
      · rw [up2_n (by omega), up2_c (by omega), up2_c (by omega), up2_c (by omega), up2_c (by omega)]
      · rw [up2_e (by omega)]
      · rw [up2_c (by omega), up2_c (by omega), up2_c (by omega), up2_c (by omega), up2_c (by omega)]
      · rw [up2_c (by omega), up2_c (by omega), up2_e (by omega)] at h
        exact absurd h (by decide)
  · rw [if_neg hl]
    refine ⟨⟨hd.1, hd.2.1, by rw [up2_c (by omega)]; exact hd.2.2.1, by rw [up2_c (by omega)]; exact hd.2.2.2⟩, ⟨fun g' hg' => ?_, fun p q s hp hq hs => ?_⟩, fun s hs => ?_⟩
    · rw [up2_c (by omega), up2_c (by omega), up2_c (by omega)]; exact g1 g' hg'
    · rw [up2_c (by omega)]; exact g2 p q s hp hq hs
    · rw [up2_c (by omega), up2_c (by omega)]; exact tr s hs
theorem alr_iv {N G : Nat} {b : S2} (h : Iv N G b) {g : Nat} (hg : g < G) {v : Int32} (hv : ∃ a, a ≤ 9 ∧ v = nI a) : Iv N G (up2 b 8 g v) := by
  obtain ⟨hd, ⟨g1, g2⟩, tr⟩ := h
  refine ⟨⟨hd.1, hd.2.1, by rw [up2_c (by omega)]; exact hd.2.2.1, by rw [up2_c (by omega)]; exact hd.2.2.2⟩, ⟨fun g' hg' => ?_, fun p q s hp hq hs => ?_⟩, fun s hs => ?_⟩
  · rw [up2_c (show (9 : Nat) ≠ 8 by omega), up2_c (show (5 : Nat) ≠ 8 by omega)]
    refine ⟨?_, (g1 g' hg').2⟩
    by_cases e : g' = g
    · subst e; rw [up2_e (by omega)]; exact hv
    · rw [up2_n (by omega)]; exact (g1 g' hg').1
  · rw [up2_c (by omega)]; exact g2 p q s hp hq hs
  · rw [up2_c (by omega), up2_c (by omega)]; exact tr s hs
theorem wrk_iv {N G : Nat} {b : S2} (h : Iv N G b) {g : Nat} (hg : g < G) : Iv N G (wrk N b g) := by
  have hN := h.1.1
  obtain ⟨⟨a, ha, ea⟩, hw⟩ := h.2.1.1 g hg
  unfold wrk
  by_cases h9 : b 9 g = -1
  · rw [if_pos h9]
    rcases fa_cases (b 5) N 0 with ⟨f1, f2⟩ | ⟨i, f1, f2, f3, f4⟩
    · rw [if_pos f1]
      exact alr_iv h hg (by rw [ea]; exact mna_n ha)
    · rw [f4, if_neg (nI_m1 i (by omega)), nI_clamp (by omega)]
      exact beg_iv h hg (by omega) h9 f3
  · rw [if_neg h9]
    rcases hw with q | ⟨t, q1, q2, q3⟩
    · exact absurd q h9
    · rw [q2, nI_clamp (by omega)]
      exact son_iv h hg q1 q2
theorem itn_iv {N G : Nat} {f : S2 → Nat → S2} {K : Nat} (hf : ∀ b t, t < K → Iv N G b → Iv N G (f b t)) : ∀ (m t : Nat) (b : S2), t + m ≤ K → Iv N G b → Iv N G (itn f m t b) := by
  intro m
  induction m with
  | zero => intro t b _ h; exact h
  | succ m ih =>
    intro t b ht h
    exact ih (t + 1) _ (by omega) (hf b t (by omega) h)
theorem clk_iv {N G : Nat} {b : S2} (h : Iv N G b) (v : Int32) : Iv N G (up2 b 0 0 v) := by
  obtain ⟨hd, ⟨g1, g2⟩, tr⟩ := h
  refine ⟨⟨hd.1, hd.2.1, by rw [up2_n (by omega)]; exact hd.2.2.1, by rw [up2_n (by omega)]; exact hd.2.2.2⟩, ⟨fun g' hg' => ?_, fun p q s hp hq hs => ?_⟩, fun s hs => ?_⟩
  · rw [up2_c (by omega), up2_c (by omega), up2_c (by omega)]; exact g1 g' hg'
  · rw [up2_c (by omega)]; exact g2 p q s hp hq hs
  · rw [up2_c (by omega), up2_c (by omega)]; exact tr s hs
theorem mn_iv {N G : Nat} {b : S2} (h : Iv N G b) : Iv N G (mn N G b) := by
  unfold mn
  refine clk_iv ?_ _
  refine itn_iv (fun b g hg hb => wrk_iv hb hg) G 0 _ (by omega) ?_
  refine itn_iv (fun b g hg hb => sh1_iv hb hg) N 0 _ (by omega) ?_
  exact itn_iv (fun b g hg hb => adv1_iv hb hg) N 0 _ (by omega) h
theorem begin_e {N G : Nat} {b : S2} (h : Hd N G b) {g t : Nat} (hg : g < 8) (ht : t < 24) : (bd1 (stA b 9 8 (nI g) (nI t)) fun b1 => bd1 (X0_searchMinutes b1 (nI t)) fun x => bd1 (stA b1 10 8 (nI g) x) fun b2 => bd1 (stA b2 5 24 (nI t) 1) fun b3 => some b3) = some (beg N b g t) := by
  unfold beg
  have hd : Hd N G (up2 b 9 g (nI t)) := ⟨h.1, h.2.1, by rw [up2_c (by omega)]; exact h.2.2.1, by rw [up2_c (by omega)]; exact h.2.2.2⟩
  rw [stA_n hg (by omega), bd1_some, searchMin_e hd ht, bd1_some, stA_n hg (by omega), bd1_some, stA_n ht (by omega), bd1_some]
  have e : stime N (up2 b 9 g (nI t)) t = stime N b t := by
    unfold stime
    rw [up2_c (by omega), up2_c (by omega), up2_c (by omega)]
  rw [e]
theorem son_e {b : S2} {g t : Nat} (hg : g < 8) (ht : t < 24) : X0_searchOn b (nI g) (nI t) = some (son b g t) := by
  unfold X0_searchOn son
  rw [ldA_n hg (by omega), bd1_some, stA_n hg (by omega), bd1_some, ldA_n hg (by omega), bd1_some, up2_e (by omega)]
  by_cases hl : b 10 g - 1 ≤ 0
  · have ef : fnd (up2 b 10 g (b 10 g - 1)) g t = fnd b g t := by
      unfold fnd
      rw [up2_c (by omega), up2_c (by omega), up2_c (by omega)]
    rw [if_pos hl, if_pos hl, finds_e ht hg, bd1_some, ef]
    by_cases hf : fnd b g t = 0
    · rw [if_pos hf, if_pos hf, stA_n ht (by omega), bd1_some, stA_n ht (by omega), bd1_some, stA_n hg (by omega), bd1_some, ldA_n hg (by omega), bd1_some]
      rw [up2_c (show (8 : Nat) ≠ 9 by omega), up2_c (show (8 : Nat) ≠ 6 by omega), up2_c (show (8 : Nat) ≠ 5 by omega), up2_c (show (8 : Nat) ≠ 10 by omega)]
      rw [stA_n hg (by omega), bd1_some]
      rfl
    · rw [if_neg hf, if_neg hf, hidden_e ht, bd1_some, bd1_some, stA_n ht (by omega), bd1_some, stA_n hg (by omega), bd1_some, ldA_n hg (by omega), bd1_some]
      rw [up2_c (show (8 : Nat) ≠ 9 by omega), up2_c (show (8 : Nat) ≠ 5 by omega), up2_c (show (8 : Nat) ≠ 0 by omega), up2_c (show (8 : Nat) ≠ 10 by omega)]
      rw [stA_n hg (by omega), bd1_some]
      rw [up2_c (show (0 : Nat) ≠ 10 by omega), up2_c (show (1 : Nat) ≠ 10 by omega), up2_c (show (2 : Nat) ≠ 10 by omega)]
      rfl
  · rw [if_neg hl, if_neg hl]
theorem rest_e {N G : Nat} {b : S2} (h : Iv N G b) {g : Nat} (hg : g < G) (h9 : b 9 g = -1) : X0_beginSearchOrRest b (nI g) = some (wrk N b g) := by
  have hd := h.1
  have hN := hd.1
  have hG := hd.2.1
  unfold X0_beginSearchOrRest wrk
  rw [if_pos h9, first_e hd, bd1_some]
  rcases fa_cases (b 5) N 0 with ⟨f1, f2⟩ | ⟨i, f1, f2, f3, f4⟩
  · rw [f1, isT_0, bd1_some, if_pos rfl, if_pos rfl, ldA_n (by omega) (by omega), bd1_some, stA_n (by omega) (by omega), bd1_some]
    rfl
  · rw [f4, if_neg (nI_m1 i (by omega)), isT_1 hd.2.2.1 hN (by omega), bd1_some, if_neg (by decide), begin_e hd (by omega) (by omega), nI_clamp (by omega)]
theorem work_e {N G : Nat} {b : S2} (h : Iv N G b) {g : Nat} (hg : g < G) (k : S2 → Option S2) : (bd1 (ldA (b 9) 8 (nI g)) fun x => bd1 (X0_isTraveller b x) fun y => (if y = 0 then bd1 (X0_beginSearchOrRest b (nI g)) fun c => k c else bd1 (X0_searchOn b (nI g) x) fun c => k c)) = k (wrk N b g) := by
  have hd := h.1
  have hN := hd.1
  have hG := hd.2.1
  obtain ⟨-, hw⟩ := h.2.1.1 g hg
  rw [ldA_n (by omega) (by omega), bd1_some]
  by_cases h9 : b 9 g = -1
  · rw [h9, isT_0, bd1_some, if_pos rfl, rest_e h hg h9, bd1_some]
  · rcases hw with q | ⟨t, q1, q2, q3⟩
    · exact absurd q h9
    · unfold wrk
      rw [if_neg h9, q2, isT_1 hd.2.2.1 hN q1, bd1_some, if_neg (by decide), son_e (by omega) (by omega), bd1_some, nI_clamp (by omega)]
theorem guards_L {N G : Nat} : ∀ (m n g : Nat) (b : S2), Iv N G b → g + m = G → m < n → X0_goOneMinute_L10 n (nI g) b = some (up2 (itn (wrk N) m g b) 0 0 ((itn (wrk N) m g b) 0 0 + 1)) := by
  intro m
  induction m with
  | zero =>
    intro n g b h hg hn
    obtain ⟨n, rfl⟩ := pos_fuel hn
    have hG := h.1.2.1
    rw [X0_goOneMinute_L10, h.1.2.2.2, if_pos (nI_le (by omega) (by omega)), bd1_some]
    rfl
  | succ m ih =>
    intro n g b h hg hn
    obtain ⟨n, rfl⟩ := pos_fuel hn
    have hG := h.1.2.1
    rw [X0_goOneMinute_L10, h.1.2.2.2, if_neg (nI_ge (by omega) (by omega)), work_e h (by omega), nI_1]
    exact ih n (g + 1) _ (wrk_iv h (by omega)) (by omega) (by omega)
theorem minute_e {N G : Nat} {b : S2} (h : Iv N G b) : X0_goOneMinute b = some (mn N G b) := by
  have hN := h.1.1
  have hG := h.1.2.1
  unfold X0_goOneMinute X0_advanceTransits X0_shortenLullabies
  have h1 : Iv N G (itn adv1 N 0 b) := itn_iv (fun b g hg hb => adv1_iv hb hg) N 0 _ (by omega) h
  have h2 : Iv N G (itn sh1 N 0 (itn adv1 N 0 b)) := itn_iv (fun b g hg hb => sh1_iv hb hg) N 0 _ (by omega) h1
  rw [i0, adv_L hN N 200 0 b h.1.2.2.1 (by omega) (by omega), bd1_some, sh_L hN N 200 0 _ h1.1.2.2.1 (by omega) (by omega), bd1_some, guards_L G 200 0 _ h2 (by omega) (by omega)]
  rfl
