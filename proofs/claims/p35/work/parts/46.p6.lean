/-! PURE 46: of the other proof: many minutes, the class's questions -/
def itm (N G : Nat) : Nat → S2 → S2
  | 0, b => b
  | k + 1, b => itm N G k (mn N G b)
theorem itm_iv {N G : Nat} : ∀ (k : Nat) {b : S2}, Iv N G b → Iv N G (itm N G k b) := by
  intro k
  induction k with
  | zero => intro b h; exact h
  | succ k ih => intro b h; exact ih (mn_iv h)
theorem pass_L {N G k : Nat} {b2 : S2} {c : Int32} (hk : k < 2 ^ 31) : ∀ (m n j : Nat) (b : S2), Iv N G b → j + m = k → m < n → X1_pass_L15 (nI k) c b2 n (nI j) b = some (.inr (ca (itm N G m b 5) 3 N 0 0 - c, itm N G m b)) := by
  intro m
  induction m with
  | zero =>
    intro n j b h hj hn
    obtain ⟨n, rfl⟩ := pos_fuel hn
    rw [X1_pass_L15, if_pos (nI_le (by omega) (by omega)), countIn_e h.1, bd1_some]
    rfl
  | succ m ih =>
    intro n j b h hj hn
    obtain ⟨n, rfl⟩ := pos_fuel hn
    rw [X1_pass_L15, if_neg (nI_ge (by omega) (by omega)), minute_e h, bd1_some, nI_1]
    exact ih n (j + 1) _ (mn_iv h) (by omega) (by omega)
theorem le_nlt {a b : Int32} (h : a ≤ b) : ¬ b < a := by
  rw [Int32.lt_iff_toInt_lt]
  rw [Int32.le_iff_toInt_le] at h
  omega
theorem nle_lt {a b : Int32} (h : ¬ a ≤ b) : b < a := by
  rw [Int32.lt_iff_toInt_lt]
  rw [Int32.le_iff_toInt_le] at h
  omega
theorem reqT_1 {b1 b2 : S2} {a : Int32} (h : X0_isTraveller b1 a = some 1) : X1_requireTraveller b1 b2 a = some (.inr ()) := by
  unfold X1_requireTraveller
  rw [h]; rfl
theorem reqG_1 {b1 b2 : S2} {a : Int32} (h : X0_isGuard b1 a = some 1) : X1_requireGuard b1 b2 a = some (.inr ()) := by
  unfold X1_requireGuard
  rw [h]; rfl
def plc (b : S2) (t : Nat) : Int32 := if b 5 t = 0 then ca (b 5) 0 t 0 0 else -1
theorem stateOf_1 {b1 b2 : S2} {t : Nat} (ht : t < 24) (e1 : X0_isTraveller b1 (nI t) = some 1) : X1_stateOf b1 b2 (nI t) = some (.inr (b1 5 t)) := by
  unfold X1_stateOf
  rw [reqT_1 e1, bx0_r, ldA_n ht (by omega), bd1_some]
theorem hiddenOf_1 {b1 b2 : S2} {t : Nat} (ht : t < 24) (e1 : X0_isTraveller b1 (nI t) = some 1) : X1_hiddenOf b1 b2 (nI t) = some (.inr (hid (b1 1 t) (b1 2 t))) := by
  unfold X1_hiddenOf
  rw [reqT_1 e1, bx0_r, hidden_e ht, bd1_some]
theorem lullabyOf_1 {b1 b2 : S2} {t : Nat} (ht : t < 24) (e1 : X0_isTraveller b1 (nI t) = some 1) : X1_lullabyOf b1 b2 (nI t) = some (.inr (b1 4 t)) := by
  unfold X1_lullabyOf
  rw [reqT_1 e1, bx0_r, ldA_n ht (by omega), bd1_some]
theorem placeInLine_1 {N G : Nat} {b1 b2 : S2} {t : Nat} (h : Hd N G b1) (ht : t < N) (e1 : X0_isTraveller b1 (nI t) = some 1) : X1_placeInLine b1 b2 (nI t) = some (.inr (plc b1 t)) := by
  have hN := h.1
  unfold X1_placeInLine plc
  rw [reqT_1 e1, bx0_r, ldA_n (by omega) (by omega), bd1_some]
  by_cases h5 : b1 5 t = 0
  · rw [if_pos h5, if_pos h5, ahead_e h (by omega), bd1_some]
  · rw [if_neg h5, if_neg h5]
theorem searchTime_1 {N G : Nat} {b1 b2 : S2} {t : Nat} (h : Hd N G b1) (ht : t < N) (e1 : X0_isTraveller b1 (nI t) = some 1) : X1_searchTime b1 b2 (nI t) = some (.inr (stime N b1 t)) := by
  have hN := h.1
  unfold X1_searchTime
  rw [reqT_1 e1, bx0_r, searchMin_e h (by omega), bd1_some]
theorem alertnessOf_1 {b1 b2 : S2} {g : Nat} (hg : g < 8) (e1 : X0_isGuard b1 (nI g) = some 1) : X1_alertnessOf b1 b2 (nI g) = some (.inr (b1 8 g)) := by
  unfold X1_alertnessOf
  rw [reqG_1 e1, bx0_r, ldA_n hg (by omega), bd1_some]
theorem searches_1 {b1 b2 : S2} {g : Nat} (hg : g < 8) (e1 : X0_isGuard b1 (nI g) = some 1) : X1_searches b1 b2 (nI g) = some (.inr (b1 9 g)) := by
  unfold X1_searches
  rw [reqG_1 e1, bx0_r, ldA_n hg (by omega), bd1_some]
theorem minutesToGo_1 {b1 b2 : S2} {g : Nat} (hg : g < 8) (e1 : X0_isGuard b1 (nI g) = some 1) : X1_minutesToGo b1 b2 (nI g) = some (.inr (b1 10 g)) := by
  unfold X1_minutesToGo
  rw [reqG_1 e1, bx0_r, ldA_n hg (by omega), bd1_some]
def mal (al : Nat → Int32) : Nat → Nat → Int32 → Int32 → Int32
  | 0, _, l1, _ => l1
  | m + 1, g, l1, l2 => if al g ≤ l2 then mal al m (g + 1) l1 l2 else mal al m (g + 1) (nI g) (al g)
theorem mostAlert_L {G : Nat} {b1 b2 : S2} (hG : b1 0 4 = nI G) (hG' : G ≤ 8) : ∀ (m n g : Nat) (l1 l2 : Int32), g + m = G → m < n → X1_mostAlert_L6 b1 b2 n l1 l2 (nI g) = some (mal (b1 8) m g l1 l2) := by
  intro m
  induction m with
  | zero =>
    intro n g l1 l2 hg hn
    obtain ⟨n, rfl⟩ := pos_fuel hn
    rw [X1_mostAlert_L6, hG, if_pos (nI_le (by omega) (by omega))]
    rfl
  | succ m ih =>
    intro n g l1 l2 hg hn
    obtain ⟨n, rfl⟩ := pos_fuel hn
    rw [X1_mostAlert_L6, hG, if_neg (nI_ge (by omega) (by omega)), ldA_n (by omega) (by omega), bd1_some]
    simp only [mal]
    by_cases h : b1 8 g ≤ l2
    · rw [if_pos h, if_pos h, nI_1]
      exact ih n (g + 1) _ _ (by omega) (by omega)
    · rw [if_neg h, if_neg h, bd1_some, nI_1]
      exact ih n (g + 1) _ _ (by omega) (by omega)
theorem mostAlert_e {N G : Nat} {b1 b2 : S2} (h : Hd N G b1) : X1_mostAlert b1 b2 = some (mal (b1 8) G 0 (-1) (-1)) := mostAlert_L h.2.2.2 h.2.1 G 200 0 _ _ (by omega) (by have := h.2.1; omega)
theorem mean_L {G : Nat} {b1 b2 : S2} (hG : b1 0 4 = nI G) (hG' : G ≤ 8) : ∀ (m n g : Nat) (c : Int32), g + m = G → m < n → X1_meanAlertness_L16 b1 b2 n c (nI g) = bd1 (nn (FP.ddiv (FP.i2d (sa (b1 8) m g c)) (FP.i2d (nI G)))) fun _ => some (FP.ddiv (FP.i2d (sa (b1 8) m g c)) (FP.i2d (nI G))) := by
  intro m
  induction m with
  | zero =>
    intro n g c hg hn
    obtain ⟨n, rfl⟩ := pos_fuel hn
    rw [X1_meanAlertness_L16, hG, if_pos (nI_le (by omega) (by omega))]
    rfl
  | succ m ih =>
    intro n g c hg hn
    obtain ⟨n, rfl⟩ := pos_fuel hn
    rw [X1_meanAlertness_L16, hG, if_neg (nI_ge (by omega) (by omega)), ldA_n (by omega) (by omega), bd1_some, nI_1]
    exact ih n (g + 1) _ (by omega) (by omega)
theorem nn_all : ∀ s : Fin 37, ∀ g : Fin 5, (nn (FP.ddiv (FP.i2d (nI s.val)) (FP.i2d (nI g.val)))).isSome = true ∨ g.val = 0 := by decide +kernel
