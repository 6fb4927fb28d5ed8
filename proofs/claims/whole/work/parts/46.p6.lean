/-! PURE 6: many minutes -/
def Sp (t : Nat) (b c : S2) : Prop := c 0 0 = b 0 0 ∧ (b 5 t = 3 → c 5 t = 3 ∧ c 7 t = b 7 t) ∧ (b 5 t ≠ 3 → c 5 t = 3 → c 7 t = b 0 0 + 1)
theorem Sp_rf (t : Nat) (b : S2) : Sp t b b := ⟨rfl, fun h => ⟨h, rfl⟩, fun h g => absurd g h⟩
theorem Sp_tr {t : Nat} {b c d : S2} (h : Sp t b c) (g : Sp t c d) : Sp t b d := by
  refine ⟨g.1.trans h.1, fun e => ?_, fun e f => ?_⟩
  · obtain ⟨e1, e2⟩ := h.2.1 e
    obtain ⟨f1, f2⟩ := g.2.1 e1
    exact ⟨f1, f2.trans e2⟩
  · by_cases c3 : c 5 t = 3
    · rw [(g.2.1 c3).2]; exact h.2.2 e c3
    · rw [g.2.2 c3 f, h.1]
theorem Sp_eq {t : Nat} {b c : S2} (h0 : c 0 0 = b 0 0) (h5 : c 5 t = b 5 t) (h7 : c 7 t = b 7 t) : Sp t b c := ⟨h0, fun e => ⟨h5.trans e, h7⟩, fun e f => absurd (h5.symm.trans f) e⟩
theorem Sp_ne {t : Nat} {b c : S2} (h0 : c 0 0 = b 0 0) (hb : b 5 t ≠ 3) (hc : c 5 t ≠ 3) : Sp t b c := ⟨h0, fun e => absurd e hb, fun _ f => absurd f hc⟩
theorem adv1_sp (b : S2) (s t : Nat) : Sp t b (adv1 b s) := by
  unfold adv1
  by_cases h : b 5 s = 2
  · rw [if_pos h]
    by_cases h0 : 0 < b 6 s - 1
    · rw [if_pos h0]
      exact Sp_eq (by rw [up2_c (by omega)]) (by rw [up2_c (by omega)]) (by rw [up2_c (by omega)])
    · rw [if_neg h0]
      by_cases e : t = s
      · subst e
        exact ⟨by simp (disch := omega) only [up2_n], fun e => absurd (h.symm.trans e) (by decide), fun _ _ => by rw [up2_e (by omega)]⟩
      · exact Sp_eq (by simp (disch := omega) only [up2_n]) (by simp (disch := omega) only [up2_n]) (by simp (disch := omega) only [up2_n])
  · rw [if_neg h]; exact Sp_rf t b
theorem sh1_sp (b : S2) (s t : Nat) : Sp t b (sh1 b s) := by
  unfold sh1
  by_cases h : b 5 s = 0
  · rw [if_pos h]
    by_cases h0 : 0 < b 4 s - 1
    · rw [if_pos h0]
      exact Sp_eq (by rw [up2_c (by omega)]) (by rw [up2_c (by omega)]) (by rw [up2_c (by omega)])
    · rw [if_neg h0]
      by_cases e : t = s
      · subst e
        exact Sp_ne (by simp (disch := omega) only [up2_n]) (by rw [h]; decide) (by simp (disch := omega) only [up2_e, up2_n]; decide)
      · exact Sp_eq (by simp (disch := omega) only [up2_n]) (by simp (disch := omega) only [up2_n]) (by simp (disch := omega) only [up2_n])
  · rw [if_neg h]; exact Sp_rf t b
theorem wrk_sp {N G : Nat} {b : S2} (h : Iv N G b) {g : Nat} (hg : g < G) (t : Nat) : Sp t b (wrk N b g) := by
  have hN := h.1.1
  obtain ⟨-, hw⟩ := h.2.1.1 g hg
  unfold wrk
  by_cases h9 : b 9 g = -1
  · rw [if_pos h9]
    rcases fa_cases (b 5) N 0 with ⟨f1, f2⟩ | ⟨i, f1, f2, f3, f4⟩
    · rw [f1, if_pos rfl]
      exact Sp_eq (by rw [up2_c (by omega)]) (by rw [up2_c (by omega)]) (by rw [up2_c (by omega)])
    · rw [f4, if_neg (nI_m1 i (by omega)), nI_clamp (by omega)]
      unfold beg
      by_cases e : t = i
      · subst e
        exact Sp_ne (by simp (disch := omega) only [up2_n]) (by rw [f3]; decide) (by rw [up2_e (by omega)]; decide)
      · exact Sp_eq (by simp (disch := omega) only [up2_n]) (by simp (disch := omega) only [up2_n]) (by simp (disch := omega) only [up2_n])
  · rw [if_neg h9]
    rcases hw with q | ⟨s, q1, q2, q3⟩
    · exact absurd q h9
    · rw [q2, nI_clamp (by omega)]
      unfold son
      split
      · split
        · by_cases e : t = s
          · subst e
            exact Sp_ne (by simp (disch := omega) only [up2_n]) (by rw [q3]; decide) (by simp (disch := omega) only [up2_e, up2_n]; decide)
          · exact Sp_eq (by simp (disch := omega) only [up2_n]) (by simp (disch := omega) only [up2_n]) (by simp (disch := omega) only [up2_n])
        · by_cases e : t = s
          · subst e
            exact Sp_ne (by simp (disch := omega) only [up2_n]) (by rw [q3]; decide) (by simp (disch := omega) only [up2_e, up2_n]; decide)
          · exact Sp_eq (by simp (disch := omega) only [up2_n]) (by simp (disch := omega) only [up2_n]) (by simp (disch := omega) only [up2_n])
      · exact Sp_eq (by rw [up2_c (by omega)]) (by rw [up2_c (by omega)]) (by rw [up2_c (by omega)])
theorem itn_sp {N G T : Nat} {f : S2 → Nat → S2} {K : Nat} (hf : ∀ b t, t < K → Iv N G b → Iv N G (f b t) ∧ Sp T b (f b t)) : ∀ (m t : Nat) (b : S2), t + m ≤ K → Iv N G b → Sp T b (itn f m t b) := by
  intro m
  induction m with
  | zero => intro t b _ h; exact Sp_rf T b
  | succ m ih =>
    intro t b ht h
    obtain ⟨a1, a2⟩ := hf b t (by omega) h
    exact Sp_tr a2 (ih (t + 1) _ (by omega) a1)
theorem mn_sp {N G : Nat} {b : S2} (h : Iv N G b) (t : Nat) : mn N G b 0 0 = b 0 0 + 1 ∧ (b 5 t = 3 → mn N G b 5 t = 3 ∧ mn N G b 7 t = b 7 t) ∧ (b 5 t ≠ 3 → mn N G b 5 t = 3 → mn N G b 7 t = b 0 0 + 1) := by
  have h1 : Iv N G (itn adv1 N 0 b) := itn_iv (fun b g hg hb => adv1_iv hb hg) N 0 _ (by omega) h
  have h2 : Iv N G (itn sh1 N 0 (itn adv1 N 0 b)) := itn_iv (fun b g hg hb => sh1_iv hb hg) N 0 _ (by omega) h1
  have s1 : Sp t b (itn adv1 N 0 b) := itn_sp (fun b g hg hb => ⟨adv1_iv hb hg, adv1_sp b g t⟩) N 0 _ (by omega) h
  have s2 := Sp_tr s1 (itn_sp (T := t) (fun b g hg hb => ⟨sh1_iv hb hg, sh1_sp b g t⟩) N 0 _ (by omega) h1)
  have s3 := Sp_tr s2 (itn_sp (T := t) (fun b g hg hb => ⟨wrk_iv hb hg, wrk_sp hb hg t⟩) G 0 _ (by omega) h2)
  unfold mn
  rw [up2_e (by omega), up2_c (show (5 : Nat) ≠ 0 by omega), up2_c (show (7 : Nat) ≠ 0 by omega), s3.1]
  exact ⟨rfl, s3.2⟩
def itm (N G : Nat) : Nat → S2 → S2
  | 0, b => b
  | k + 1, b => itm N G k (mn N G b)
theorem itm_iv {N G : Nat} : ∀ (k : Nat) {b : S2}, Iv N G b → Iv N G (itm N G k b) := by
  intro k
  induction k with
  | zero => intro b h; exact h
  | succ k ih => intro b h; exact ih (mn_iv h)
/-- all are asleep or sent back -/
def St (N : Nat) (b : S2) : Prop := ∀ t, t < N → b 5 t = 3 ∨ b 5 t = 4
theorem itn_id {f : S2 → Nat → S2} {K : Nat} {b : S2} (hf : ∀ s, s < K → f b s = b) : ∀ m s, s + m ≤ K → itn f m s b = b := by
  intro m
  induction m with
  | zero => intro s _; rfl
  | succ m ih => intro s hs; show itn f m (s + 1) (f b s) = b; rw [hf s (by omega)]; exact ih (s + 1) (by omega)
theorem wrk_st {N G : Nat} {b : S2} (h : Iv N G b) (s : St N b) : ∀ (m g : Nat) (c : S2), g + m ≤ G → c 0 = b 0 → c 5 = b 5 → c 7 = b 7 → c 9 = b 9 → (itn (wrk N) m g c) 0 = b 0 ∧ (itn (wrk N) m g c) 5 = b 5 ∧ (itn (wrk N) m g c) 7 = b 7 := by
  intro m
  induction m with
  | zero => intro g c _ h0 h5 h7 _; exact ⟨h0, h5, h7⟩
  | succ m ih =>
    intro g c hg h0 h5 h7 h9
    have e9 : c 9 g = -1 := by
      rw [h9]
      rcases (h.2.1.1 g (by omega)).2 with q | ⟨t, q1, q2, q3⟩
      · exact q
      · rcases s t q1 with z | z <;> rw [z] at q3 <;> exact absurd q3 (by decide)
    have ef : fa (c 5) N 0 = -1 := by
      rw [h5]
      rcases fa_cases (b 5) N 0 with ⟨f1, f2⟩ | ⟨i, f1, f2, f3, f4⟩
      · exact f1
      · rcases s i (by omega) with z | z <;> rw [z] at f3 <;> exact absurd f3 (by decide)
    show (itn (wrk N) m (g + 1) (wrk N c g)) 0 = b 0 ∧ (itn (wrk N) m (g + 1) (wrk N c g)) 5 = b 5 ∧ (itn (wrk N) m (g + 1) (wrk N c g)) 7 = b 7
    have ew : wrk N c g = up2 c 8 g (mna (c 8 g)) := by
      unfold wrk
      rw [if_pos e9, if_pos ef]
    rw [ew]
    exact ih (g + 1) _ (by omega) (by rw [up2_c (by omega), h0]) (by rw [up2_c (by omega), h5]) (by rw [up2_c (by omega), h7]) (by rw [up2_c (by omega), h9])
theorem mn_st {N G : Nat} {b : S2} (h : Iv N G b) (s : St N b) : mn N G b 0 1 = b 0 1 ∧ mn N G b 5 = b 5 ∧ mn N G b 7 = b 7 := by
  have e1 : itn adv1 N 0 b = b := itn_id (K := N) (fun t ht => by
    unfold adv1
    rw [if_neg]
    intro z
    rcases s t ht with q | q <;> rw [q] at z <;> exact absurd z (by decide)) N 0 (by omega)
  have e2 : itn sh1 N 0 b = b := itn_id (K := N) (fun t ht => by
    unfold sh1
    rw [if_neg]
    intro z
    rcases s t ht with q | q <;> rw [q] at z <;> exact absurd z (by decide)) N 0 (by omega)
  obtain ⟨w0, w5, w7⟩ := wrk_st h s G 0 b (by omega) rfl rfl rfl rfl
  unfold mn
  rw [e1, e2]
  exact ⟨by rw [up2_n (by omega), w0], by rw [up2_c (by omega), w5], by rw [up2_c (by omega), w7]⟩
theorem itm_st {N G : Nat} : ∀ (k : Nat) {b : S2}, Iv N G b → St N b → itm N G k b 0 1 = b 0 1 ∧ itm N G k b 5 = b 5 ∧ itm N G k b 7 = b 7 := by
  intro k
  induction k with
  | zero => intro b _ _; exact ⟨rfl, rfl, rfl⟩
  | succ k ih =>
    intro b h s
    obtain ⟨a1, a5, a7⟩ := mn_st h s
    obtain ⟨c1, c5, c7⟩ := ih (mn_iv h) (by intro t ht; rw [a5]; exact s t ht)
    exact ⟨c1.trans a1, c5.trans a5, c7.trans a7⟩
theorem settled_L {N : Nat} {b : S2} (hN : b 0 3 = nI N) (hN' : N ≤ 24) : ∀ (m n t : Nat), t + m = N → m < n → (∀ i, i < t → b 5 i = 3 ∨ b 5 i = 4) → (X0_isSettled_L2 b n (nI t) = some 1 ∧ St N b) ∨ X0_isSettled_L2 b n (nI t) = some 0 := by
  intro m
  induction m with
  | zero =>
    intro n t ht hn hs
    obtain ⟨n, rfl⟩ := pos_fuel hn
    rw [X0_isSettled_L2, hN, if_pos (nI_le (by omega) (by omega))]
    exact Or.inl ⟨rfl, fun i hi => hs i (by omega)⟩
  | succ m ih =>
    intro n t ht hn hs
    obtain ⟨n, rfl⟩ := pos_fuel hn
    rw [X0_isSettled_L2, hN, if_neg (nI_ge (by omega) (by omega)), ldA_n (by omega) (by omega), bd1_some]
    have nx : ∀ (q : b 5 t = 3 ∨ b 5 t = 4), ∀ i, i < t + 1 → b 5 i = 3 ∨ b 5 i = 4 := by
      intro q i hi
      by_cases e : i = t
      · rw [e]; exact q
      · exact hs i (by omega)
    by_cases h3 : b 5 t = 3
    · rw [if_pos h3, nI_1]
      exact ih n (t + 1) (by omega) (by omega) (nx (Or.inl h3))
    · rw [if_neg h3, bd1_some]
      by_cases h4 : b 5 t = 4
      · rw [if_pos h4, nI_1]
        exact ih n (t + 1) (by omega) (by omega) (nx (Or.inr h4))
      · rw [if_neg h4]
        exact Or.inr rfl
theorem settled_e {N G : Nat} {b : S2} (h : Hd N G b) : (X0_isSettled b = some 1 ∧ St N b) ∨ X0_isSettled b = some 0 := settled_L h.2.2.1 h.1 N 200 0 (by omega) (by have := h.1; omega) (fun i hi => absurd hi (by omega))
theorem goOn_L {N G k : Nat} (hk : k < 2 ^ 31) : ∀ (m n j : Nat) (b : S2), Iv N G b → j + m = k → m < n → ∃ b', X0_goOn_L2 (nI k) n (nI j) b = some b' ∧ Iv N G b' ∧ b' 0 1 = itm N G m b 0 1 ∧ b' 5 = itm N G m b 5 ∧ b' 7 = itm N G m b 7 := by
  intro m
  induction m with
  | zero =>
    intro n j b h hj hn
    obtain ⟨n, rfl⟩ := pos_fuel hn
    rw [X0_goOn_L2, if_pos (nI_le (by omega) (by omega))]
    exact ⟨b, rfl, h, rfl, rfl, rfl⟩
  | succ m ih =>
    intro n j b h hj hn
    obtain ⟨n, rfl⟩ := pos_fuel hn
    rw [X0_goOn_L2, if_neg (nI_ge (by omega) (by omega))]
    rcases settled_e h.1 with ⟨e, s⟩ | e
    · rw [e, bd1_some, if_neg (by decide)]
      obtain ⟨a1, a5, a7⟩ := itm_st (m + 1) h s
      exact ⟨b, rfl, h, a1.symm, a5.symm, a7.symm⟩
    · rw [e, bd1_some, if_pos rfl, minute_e h, bd1_some, nI_1]
      exact ih n (j + 1) _ (mn_iv h) (by omega) (by omega)
theorem goOn_e {N G k : Nat} {b : S2} (h : Iv N G b) (hk : k ≤ 100) : ∃ b', X0_goOn b (nI k) = some b' ∧ Iv N G b' ∧ b' 0 1 = itm N G k b 0 1 ∧ b' 5 = itm N G k b 5 ∧ b' 7 = itm N G k b 7 := goOn_L (by omega) k 200 0 b h (by omega) (by omega)
theorem pass_L {N G k : Nat} {b2 : S2} {c : Int32} (hk : k < 2 ^ 31) : ∀ (m n j : Nat) (b : S2), Iv N G b → j + m = k → m < n → X1_pass_L15 (nI k) c b2 n (nI j) b = some (.inr (ca (itm N G m b 5) 3 N 0 0 - c, itm N G m b)) := by
  intro m
  induction m with
  | zero =>
    intro n j b h hj hn
    obtain ⟨n, rfl⟩ := pos_fuel hn
    rw [X1_pass_L15, if_pos (nI_le (by omega) (by omega)), countIn_e h.1, bd1_some]
    rfl
  | succ m ih =>
    intro n j b h hj hn
    obtain ⟨n, rfl⟩ := pos_fuel hn
    rw [X1_pass_L15, if_neg (nI_ge (by omega) (by omega)), minute_e h, bd1_some, nI_1]
    exact ih n (j + 1) _ (mn_iv h) (by omega) (by omega)
theorem minutes_L {N G k : Nat} (hk : k < 2 ^ 31) : ∀ (m n j : Nat) (w b : S2), RM N G w b → Iv N G b → j + m = k → m < n → ∃ w', X2_minutesOn_L2 (nI k) n (nI j) w = some w' ∧ RM N G w' (itm N G m b) ∧ fm w w' := by
  intro m
  induction m with
  | zero =>
    intro n j w b r h hj hn
    obtain ⟨n, rfl⟩ := pos_fuel hn
    rw [X2_minutesOn_L2, if_pos (nI_le (by omega) (by omega))]
    exact ⟨w, rfl, r, fm_rf w⟩
  | succ m ih =>
    intro n j w b r h hj hn
    obtain ⟨n, rfl⟩ := pos_fuel hn
    obtain ⟨w1, e1, e2, e3⟩ := minute_r r h
    rw [X2_minutesOn_L2, if_neg (nI_ge (by omega) (by omega)), e1, bd1_some, nI_1]
    obtain ⟨w2, f1, f2, f3⟩ := ih n (j + 1) w1 _ e2 (mn_iv h) (by omega) (by omega)
    exact ⟨w2, f1, f2, fm_tr e3 f3⟩
theorem minutes_r {N G k : Nat} {w b : S2} (r : RM N G w b) (h : Iv N G b) (hk : k ≤ 100) : ∃ w', X2_minutesOn w (nI k) = some w' ∧ RM N G w' (itm N G k b) ∧ fm w w' := minutes_L (by omega) k 200 0 w b r h (by omega) (by omega)
/-- the first minute at which t sleeps -/
def fsr (N G t : Nat) : Nat → Nat → S2 → Int32
  | 0, _, _ => -1
  | m + 1, k, b => if b 5 t = 3 then nI k else fsr N G t m (k + 1) (mn N G b)
def fs (N G t : Nat) (b : S2) : Int32 := fsr N G t 101 0 b
theorem run_L {N G t : Nat} (ht : t < N) : ∀ (m n k : Nat) (w b : S2), RM N G w b → Iv N G b → k + m = 101 → m < n → ∃ w', X2_run_L2 (nI t) n (nI k) w = some (fsr N G t m k b, w') ∧ fm w w' := by
  intro m
  induction m with
  | zero =>
    intro n k w b r h hk hn
    obtain ⟨n, rfl⟩ := pos_fuel hn
    have e : k = 101 := by omega
    subst e
    rw [X2_run_L2, if_pos (show (100 : Int32) < nI 101 by decide), if_neg (show ¬ nI 101 ≤ (100 : Int32) by decide)]
    exact ⟨w, rfl, fm_rf w⟩
  | succ m ih =>
    intro n k w b r h hk hn
    obtain ⟨n, rfl⟩ := pos_fuel hn
    have hN := h.1.1
    have k1 : nI k ≤ (100 : Int32) := nI_le (b := 100) (by omega) (by omega)
    have k2 : ¬ (100 : Int32) < nI k := by
      intro z
      rw [Int32.lt_iff_toInt_lt] at z
      rw [Int32.le_iff_toInt_le] at k1
      omega
    rw [X2_run_L2, if_neg k2, tr0 (by omega), bd1_some, (r.2.2.1 t ht).2.2.1]
    simp only [fsr]
    by_cases h3 : b 5 t = 3
    · rw [if_pos h3, if_pos h3, if_pos k1]
      exact ⟨w, rfl, fm_rf w⟩
    · obtain ⟨w1, e1, e2, e3⟩ := minute_r r h
      rw [if_neg h3, if_neg h3, e1, bd1_some, nI_1]
      obtain ⟨w2, f1, f3⟩ := ih n (k + 1) w1 _ e2 (mn_iv h) (by omega) (by omega)
      exact ⟨w2, f1, fm_tr e3 f3⟩
theorem run_r {N G t : Nat} {w b : S2} (ht : t < N) (r : RM N G w b) (h : Iv N G b) : ∃ w', X2_run w (nI t) = some (fs N G t b, w') ∧ fm w w' := run_L ht 101 200 0 w b r h (by omega) (by omega)
theorem perm {N G t : Nat} : ∀ (m : Nat) (b : S2), Iv N G b → b 5 t = 3 → itm N G m b 5 t = 3 ∧ itm N G m b 7 t = b 7 t := by
  intro m
  induction m with
  | zero => intro b _ h; exact ⟨h, rfl⟩
  | succ m ih =>
    intro b v h
    obtain ⟨a1, a2⟩ := (mn_sp v t).2.1 h
    obtain ⟨c1, c2⟩ := ih _ (mn_iv v) a1
    exact ⟨c1, c2.trans a2⟩
theorem fsr_e {N G t : Nat} (c0 : Int32) : ∀ (m k : Nat) (b : S2), Iv N G b → b 0 0 = c0 + nI k → b 5 t ≠ 3 → (itm N G m b 5 t = 3 → itm N G m b 7 t - c0 = fsr N G t (m + 1) k b) ∧ (itm N G m b 5 t ≠ 3 → fsr N G t (m + 1) k b = -1) := by
  intro m
  induction m with
  | zero =>
    intro k b v h0 h
    refine ⟨fun e => absurd e h, fun _ => ?_⟩
    simp only [fsr]
    rw [if_neg h]
  | succ m ih =>
    intro k b v h0 h
    have e : fsr N G t (m + 1 + 1) k b = fsr N G t (m + 1) (k + 1) (mn N G b) := by
      rw [fsr, if_neg h]
    obtain ⟨p0, p1, p2⟩ := mn_sp v t
    have h1 : mn N G b 0 0 = c0 + nI (k + 1) := by rw [p0, h0, Int32.add_assoc, nI_1]
    rw [e]
    show (itm N G m (mn N G b) 5 t = 3 → itm N G m (mn N G b) 7 t - c0 = _) ∧ (itm N G m (mn N G b) 5 t ≠ 3 → _)
    by_cases h3 : mn N G b 5 t = 3
    · obtain ⟨q1, q2⟩ := perm m _ (mn_iv v) h3
      refine ⟨fun _ => ?_, fun z => absurd q1 z⟩
      rw [q2, p2 h h3, ← p0, h1, fsr, if_pos h3, Int32.add_comm, Int32.add_sub_cancel]
    · exact ih (k + 1) _ (mn_iv v) h1 h3
/-- what the class foresees -/
theorem foresee_e {N G t : Nat} {a b c : S2} (ht : t < 24) (v : Iv N G b) (h0 : a 0 0 = b 0 0) (h5 : a 5 t = b 5 t) (c5 : c 5 t = itm N G 100 b 5 t) (c7 : c 7 t = itm N G 100 b 7 t) : X1_foreseenSleep a c (nI t) = some (fs N G t b) := by
  unfold X1_foreseenSleep
  rw [ldA_n ht (by omega), bd1_some]
  by_cases h3 : b 5 t = 3
  · rw [h5, if_pos h3]
    unfold fs
    rw [fsr, if_pos h3]
    rfl
  · obtain ⟨q1, q2⟩ := fsr_e (N := N) (G := G) (t := t) (b 0 0) 100 0 b v (by rw [show nI 0 = 0 from rfl, Int32.add_zero]) h3
    rw [h5, if_neg h3, ldA_n ht (by omega), bd1_some, c5]
    by_cases z : itm N G 100 b 5 t = 3
    · rw [if_pos z, ldA_n ht (by omega), bd1_some, c7, h0, q1 z]
      rfl
    · rw [if_neg z]
      unfold fs
      rw [q2 z]
