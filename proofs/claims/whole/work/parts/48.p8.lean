/-! PURE 8: the law's simple questions -/
def LI (b w : S2) : Prop := ∃ N G, G ≤ 4 ∧ Iv N G b ∧ RM N G w b
def KH (K : S2 → S2 → (Nat → Int64) → S2 → Option Int32) : Prop := ∀ b1 b2 o w, LI b1 w → K b1 b2 o w = some 1
theorem LI_t {b w : S2} (h : LI b w) (c : Int32) : LI b (up2 w 0 0 c) := by
  obtain ⟨N, G, hG, v, r⟩ := h
  exact ⟨N, G, hG, v, RM_t r v.1.1 (by omega) c⟩
theorem bc1_r {α γ : Type} (x : α) (X : Nat → Option γ) (K : α → Option γ) : bc1 (some (.inr x)) X K = K x := rfl
theorem bc1_l {α γ : Type} (n : Nat) (X : Nat → Option γ) (K : α → Option γ) : bc1 (some (.inl n)) X K = X n := rfl
theorem bc2_r {α β γ : Type} (x : α) (y : β) (X : Nat → Option γ) (K : α → β → Option γ) : bc2 (some (.inr (x, y))) X K = K x y := rfl
theorem bc2_l {α β γ : Type} (n : Nat) (X : Nat → Option γ) (K : α → β → Option γ) : bc2 (some (.inl n)) X K = X n := rfl
theorem fin_q {K : S2 → S2 → (Nat → Int64) → S2 → Option Int32} (hK : KH K) {b1 b2 w : S2} {o : Nat → Int64} {x : Int32} {f : Option Int32} {g : Option (Int32 × S2)} (hI : LI b1 w) (e1 : f = some x) (e2 : g = some (x, up2 w 0 0 0)) : (bd1 f fun x1 => bd2 g fun x3 w_4 => (if x1 = x3 then K b1 b2 o w_4 else some 0)) = some 1 := by
  rw [e1, bd1_some, e2, bd2_some, if_pos rfl]
  exact hK _ _ _ _ (LI_t hI 0)
theorem fin_v {K : S2 → S2 → (Nat → Int64) → S2 → Option Int32} (hK : KH K) {k x : Int32} {b1 b2 w : S2} {o : Nat → Int64} (hI : LI b1 w) (hw : w 0 0 = k) (ho : k = 0 → ldL o 1 0 = some (Int32.toInt64 x)) : (bd1 (X2_thrown w) fun x11 => (if x11 = k then (if k = 0 then bd1 (ldL o 1 0) fun x16 => (if (lg_cmp x16 (Int32.toInt64 x)) = 0 then K b1 b2 o w else some 0) else K b1 b2 o w) else some 0)) = some 1 := by
  rw [thr_e, bd1_some, if_pos hw]
  by_cases h : k = 0
  · rw [if_pos h, ho h, bd1_some, if_pos (lgc _)]
    exact hK _ _ _ _ hI
  · rw [if_neg h]
    exact hK _ _ _ _ hI
theorem place_L {N G : Nat} {w b : S2} (r : RM N G w b) (hN : N ≤ 24) {T : Nat} (hT : T ≤ N) : ∀ (m n t : Nat) (c : Int32), t + m = T → m < n → X2_place_L15 (nI T) w n c (nI t) = some (ca (b 5) 0 m t c) := by
  intro m
  induction m with
  | zero =>
    intro n t c ht hn
    obtain ⟨n, rfl⟩ := pos_fuel hn
    rw [X2_place_L15, if_pos (nI_le (by omega) (by omega))]
    rfl
  | succ m ih =>
    intro n t c ht hn
    obtain ⟨n, rfl⟩ := pos_fuel hn
    rw [X2_place_L15, if_neg (nI_ge (by omega) (by omega)), tr0 (by omega), bd1_some, (r.2.2.1 t (by omega)).2.2.1]
    simp only [ca]
    by_cases h : b 5 t = 0
    · rw [if_pos h, if_pos h, nI_1]
      exact ih n (t + 1) (c + 1) (by omega) (by omega)
    · rw [if_neg h, if_neg h, nI_1, a0]
      exact ih n (t + 1) c (by omega) (by omega)
def plc (b : S2) (t : Nat) : Int32 := if b 5 t = 0 then ca (b 5) 0 t 0 0 else -1
theorem place_m {N G : Nat} {w b : S2} (r : RM N G w b) (hN : N ≤ 24) {t : Nat} (ht : t < N) : X2_place w (nI t) = some (plc b t) := by
  unfold X2_place plc
  rw [tr0 (by omega), bd1_some, (r.2.2.1 t ht).2.2.1]
  by_cases h : b 5 t = 0
  · rw [if_pos h, if_pos h]
    exact place_L r hN (T := t) (by omega) t 200 0 0 (by omega) (by omega)
  · rw [if_neg h, if_neg h]
theorem stateOf_1 {b1 b2 : S2} {t : Nat} (ht : t < 24) (e1 : X0_isTraveller b1 (nI t) = some 1) : X1_stateOf b1 b2 (nI t) = some (.inr (b1 5 t)) := by
  unfold X1_stateOf
  rw [reqT_1 e1, bx0_r, ldA_n ht (by omega), bd1_some]
theorem hiddenOf_1 {b1 b2 : S2} {t : Nat} (ht : t < 24) (e1 : X0_isTraveller b1 (nI t) = some 1) : X1_hiddenOf b1 b2 (nI t) = some (.inr (hid (b1 1 t) (b1 2 t))) := by
  unfold X1_hiddenOf
  rw [reqT_1 e1, bx0_r, hidden_e ht, bd1_some]
theorem lullabyOf_1 {b1 b2 : S2} {t : Nat} (ht : t < 24) (e1 : X0_isTraveller b1 (nI t) = some 1) : X1_lullabyOf b1 b2 (nI t) = some (.inr (b1 4 t)) := by
  unfold X1_lullabyOf
  rw [reqT_1 e1, bx0_r, ldA_n ht (by omega), bd1_some]
theorem placeInLine_1 {N G : Nat} {b1 b2 : S2} {t : Nat} (h : Hd N G b1) (ht : t < N) (e1 : X0_isTraveller b1 (nI t) = some 1) : X1_placeInLine b1 b2 (nI t) = some (.inr (plc b1 t)) := by
  have hN := h.1
  unfold X1_placeInLine plc
  rw [reqT_1 e1, bx0_r, ldA_n (by omega) (by omega), bd1_some]
  by_cases h5 : b1 5 t = 0
  · rw [if_pos h5, if_pos h5, ahead_e h (by omega), bd1_some]
  · rw [if_neg h5, if_neg h5]
theorem searchTime_1 {N G : Nat} {b1 b2 : S2} {t : Nat} (h : Hd N G b1) (ht : t < N) (e1 : X0_isTraveller b1 (nI t) = some 1) : X1_searchTime b1 b2 (nI t) = some (.inr (stime N b1 t)) := by
  have hN := h.1
  unfold X1_searchTime
  rw [reqT_1 e1, bx0_r, searchMin_e h (by omega), bd1_some]
theorem alertnessOf_1 {b1 b2 : S2} {g : Nat} (hg : g < 8) (e1 : X0_isGuard b1 (nI g) = some 1) : X1_alertnessOf b1 b2 (nI g) = some (.inr (b1 8 g)) := by
  unfold X1_alertnessOf
  rw [reqG_1 e1, bx0_r, ldA_n hg (by omega), bd1_some]
theorem searches_1 {b1 b2 : S2} {g : Nat} (hg : g < 8) (e1 : X0_isGuard b1 (nI g) = some 1) : X1_searches b1 b2 (nI g) = some (.inr (b1 9 g)) := by
  unfold X1_searches
  rw [reqG_1 e1, bx0_r, ldA_n hg (by omega), bd1_some]
theorem minutesToGo_1 {b1 b2 : S2} {g : Nat} (hg : g < 8) (e1 : X0_isGuard b1 (nI g) = some 1) : X1_minutesToGo b1 b2 (nI g) = some (.inr (b1 10 g)) := by
  unfold X1_minutesToGo
  rw [reqG_1 e1, bx0_r, ldA_n hg (by omega), bd1_some]
def mal (al : Nat → Int32) : Nat → Nat → Int32 → Int32 → Int32
  | 0, _, l1, _ => l1
  | m + 1, g, l1, l2 => if al g ≤ l2 then mal al m (g + 1) l1 l2 else mal al m (g + 1) (nI g) (al g)
theorem mostAlert_L {G : Nat} {b1 b2 : S2} (hG : b1 0 4 = nI G) (hG' : G ≤ 8) : ∀ (m n g : Nat) (l1 l2 : Int32), g + m = G → m < n → X1_mostAlert_L6 b1 b2 n l1 l2 (nI g) = some (mal (b1 8) m g l1 l2) := by
  intro m
  induction m with
  | zero =>
    intro n g l1 l2 hg hn
    obtain ⟨n, rfl⟩ := pos_fuel hn
    rw [X1_mostAlert_L6, hG, if_pos (nI_le (by omega) (by omega))]
    rfl
  | succ m ih =>
    intro n g l1 l2 hg hn
    obtain ⟨n, rfl⟩ := pos_fuel hn
    rw [X1_mostAlert_L6, hG, if_neg (nI_ge (by omega) (by omega)), ldA_n (by omega) (by omega), bd1_some]
    simp only [mal]
    by_cases h : b1 8 g ≤ l2
    · rw [if_pos h, if_pos h, nI_1]
      exact ih n (g + 1) _ _ (by omega) (by omega)
    · rw [if_neg h, if_neg h, bd1_some, nI_1]
      exact ih n (g + 1) _ _ (by omega) (by omega)
theorem mostAlert_e {N G : Nat} {b1 b2 : S2} (h : Hd N G b1) : X1_mostAlert b1 b2 = some (mal (b1 8) G 0 (-1) (-1)) := mostAlert_L h.2.2.2 h.2.1 G 200 0 _ _ (by omega) (by have := h.2.1; omega)
theorem alertest_L {N G : Nat} {w b : S2} (v : Iv N G b) (r : RM N G w b) : ∀ (m n g : Nat) (l1 l2 : Int32), g + m = G → m < n → ((l1 = -1 ∧ l2 = -1) ∨ ∃ i, i < G ∧ l1 = nI i ∧ l2 = b 8 i) → X2_alertest_L4 w n l1 (nI g) = some (mal (b 8) m g l1 l2) := by
  have hG := v.1.2.1
  intro m
  induction m with
  | zero =>
    intro n g l1 l2 hg hn _
    obtain ⟨n, rfl⟩ := pos_fuel hn
    rw [X2_alertest_L4, ld3_3, bd1_some, r.1.2.2.2.2, if_pos (nI_le (by omega) (by omega))]
    rfl
  | succ m ih =>
    intro n g l1 l2 hg hn hc
    obtain ⟨n, rfl⟩ := pos_fuel hn
    rw [X2_alertest_L4, ld3_3, bd1_some, r.1.2.2.2.2, if_neg (nI_ge (by omega) (by omega))]
    simp only [mal]
    rcases hc with ⟨rfl, rfl⟩ | ⟨i, hi, rfl, rfl⟩
    · obtain ⟨⟨a, ha, ea⟩, -⟩ := v.2.1.1 g (by omega)
      have h : ¬ b 8 g ≤ -1 := by
        rw [ea, Int32.le_iff_toInt_le, nI_toInt (by omega)]
        have : (-1 : Int32).toInt = -1 := rfl
        omega
      rw [if_pos rfl, if_neg h, nI_1]
      exact ih n (g + 1) _ _ (by omega) (by omega) (Or.inr ⟨g, by omega, rfl, rfl⟩)
    · rw [if_neg (nI_m1 i (by omega)), gu0 (by omega), bd1_some, gu0 (by omega), bd1_some, (r.2.1 g (by omega)).1, (r.2.1 i hi).1]
      by_cases h : b 8 g ≤ b 8 i
      · rw [if_pos h, if_pos h, nI_1]
        exact ih n (g + 1) _ _ (by omega) (by omega) (Or.inr ⟨i, hi, rfl, rfl⟩)
      · rw [if_neg h, if_neg h, nI_1]
        exact ih n (g + 1) _ _ (by omega) (by omega) (Or.inr ⟨g, by omega, rfl, rfl⟩)
theorem alertest_e {N G : Nat} {w b : S2} (v : Iv N G b) (r : RM N G w b) : X2_alertest w = some (mal (b 8) G 0 (-1) (-1)) := alertest_L v r G 200 0 _ _ (by omega) (by have := v.1.2.1; omega) (Or.inl ⟨rfl, rfl⟩)

theorem c6 {xs : Nat → Int32} {L : Nat} {K : S2 → S2 → (Nat → Int64) → S2 → Option Int32} {l4 : Int32} {b1 b2 w : S2} {o : Nat → Int64} (hK : KH K) (hI : LI b1 w) : L_law_C6 xs L K l4 b1 b2 o w = some 1 := by
  have hI' := hI
  obtain ⟨N, G, hG, v, r⟩ := hI
  have hN := v.1.1
  unfold L_law_C6
  exact fin_q hK hI' (by unfold X1_minute; rw [← r.1.2.1]) (by unfold X2_minute; rw [ld3_0, bd1_some, told_e, bd2_some])
theorem c7 {xs : Nat → Int32} {L : Nat} {K : S2 → S2 → (Nat → Int64) → S2 → Option Int32} {l4 : Int32} {b1 b2 w : S2} {o : Nat → Int64} (hK : KH K) (hI : LI b1 w) : L_law_C7 xs L K l4 b1 b2 o w = some 1 := by
  have hI' := hI
  obtain ⟨N, G, hG, v, r⟩ := hI
  have hN := v.1.1
  unfold L_law_C7
  exact fin_q hK hI' (by unfold X1_travellers; rw [v.1.2.2.1]) (by unfold X2_travellers; rw [r.1.1, told_e, bd2_some])
theorem c8 {xs : Nat → Int32} {L : Nat} {K : S2 → S2 → (Nat → Int64) → S2 → Option Int32} {l4 : Int32} {b1 b2 w : S2} {o : Nat → Int64} (hK : KH K) (hI : LI b1 w) : L_law_C8 xs L K l4 b1 b2 o w = some 1 := by
  have hI' := hI
  obtain ⟨N, G, hG, v, r⟩ := hI
  have hN := v.1.1
  unfold L_law_C8
  exact fin_q hK hI' (by unfold X1_waiting; rw [countIn_e v.1, bd1_some]) (by unfold X2_waiting; rw [count_m r hN, bd1_some, told_e, bd2_some])
theorem c9 {xs : Nat → Int32} {L : Nat} {K : S2 → S2 → (Nat → Int64) → S2 → Option Int32} {l4 : Int32} {b1 b2 w : S2} {o : Nat → Int64} (hK : KH K) (hI : LI b1 w) : L_law_C9 xs L K l4 b1 b2 o w = some 1 := by
  have hI' := hI
  obtain ⟨N, G, hG, v, r⟩ := hI
  have hN := v.1.1
  unfold L_law_C9
  exact fin_q hK hI' (by unfold X1_asleep; rw [countIn_e v.1, bd1_some]) (by unfold X2_asleep; rw [count_m r hN, bd1_some, told_e, bd2_some])
theorem c10 {xs : Nat → Int32} {L : Nat} {K : S2 → S2 → (Nat → Int64) → S2 → Option Int32} {l4 : Int32} {b1 b2 w : S2} {o : Nat → Int64} (hK : KH K) (hI : LI b1 w) : L_law_C10 xs L K l4 b1 b2 o w = some 1 := by
  have hI' := hI
  obtain ⟨N, G, hG, v, r⟩ := hI
  have hN := v.1.1
  unfold L_law_C10
  exact fin_q hK hI' (by unfold X1_sentBack; rw [countIn_e v.1, bd1_some]) (by unfold X2_sentBack; rw [count_m r hN, bd1_some, told_e, bd2_some])
theorem c11 {xs : Nat → Int32} {L : Nat} {K : S2 → S2 → (Nat → Int64) → S2 → Option Int32} {l4 : Int32} {b1 b2 w : S2} {o : Nat → Int64} (hK : KH K) (hI : LI b1 w) : L_law_C11 xs L K l4 b1 b2 o w = some 1 := by
  have hI' := hI
  obtain ⟨N, G, hG, v, r⟩ := hI
  have hN := v.1.1
  unfold L_law_C11
  exact fin_q hK hI' (by unfold X1_expired; rw [← r.1.2.2.1]) (by unfold X2_expired; rw [ld3_1, bd1_some, told_e, bd2_some])
theorem c12 {xs : Nat → Int32} {L : Nat} {K : S2 → S2 → (Nat → Int64) → S2 → Option Int32} {l4 : Int32} {b1 b2 w : S2} {o : Nat → Int64} (hK : KH K) (hI : LI b1 w) : L_law_C12 xs L K l4 b1 b2 o w = some 1 := by
  have hI' := hI
  obtain ⟨N, G, hG, v, r⟩ := hI
  have hN := v.1.1
  unfold L_law_C12
  exact fin_q hK hI' (by unfold X1_paid; rw [← r.1.2.2.2.1]) (by unfold X2_paid; rw [ld3_2, bd1_some, told_e, bd2_some])
theorem c13 {xs : Nat → Int32} {L : Nat} {K : S2 → S2 → (Nat → Int64) → S2 → Option Int32} {l4 : Int32} {b1 b2 w : S2} {o : Nat → Int64} (hK : KH K) (hI : LI b1 w) : L_law_C13 xs L K l4 b1 b2 o w = some 1 := by
  have hI' := hI
  obtain ⟨N, G, hG, v, r⟩ := hI
  have hN := v.1.1
  unfold L_law_C13
  exact fin_q hK hI' (by unfold X1_noise; rw [snores_e v.1, bd1_some]) (by unfold X2_noise; rw [loud_m r hN, bd1_some, told_e, bd2_some])
theorem c14 {xs : Nat → Int32} {L : Nat} {K : S2 → S2 → (Nat → Int64) → S2 → Option Int32} {l4 : Int32} {b1 b2 w : S2} {o : Nat → Int64} (hK : KH K) (hI : LI b1 w) : L_law_C14 xs L K l4 b1 b2 o w = some 1 := by
  have hI' := hI
  obtain ⟨N, G, hG, v, r⟩ := hI
  have hN := v.1.1
  unfold L_law_C14
  exact fin_q hK hI' (by unfold X1_nextInLine; rw [first_e v.1, bd1_some]) (by unfold X2_nextInLine; rw [first_m r hN, bd1_some, told_e, bd2_some])
theorem c20 {xs : Nat → Int32} {L : Nat} {K : S2 → S2 → (Nat → Int64) → S2 → Option Int32} {l4 : Int32} {b1 b2 w : S2} {o : Nat → Int64} (hK : KH K) (hI : LI b1 w) : L_law_C20 xs L K l4 b1 b2 o w = some 1 := by
  have hI' := hI
  obtain ⟨N, G, hG, v, r⟩ := hI
  have hN := v.1.1
  unfold L_law_C20
  exact fin_q hK hI' (by unfold X1_guards; rw [v.1.2.2.2]) (by unfold X2_guards; rw [ld3_3, bd1_some, r.1.2.2.2.2, told_e, bd2_some])
theorem c25 {xs : Nat → Int32} {L : Nat} {K : S2 → S2 → (Nat → Int64) → S2 → Option Int32} {l4 : Int32} {b1 b2 w : S2} {o : Nat → Int64} (hK : KH K) (hI : LI b1 w) : L_law_C25 xs L K l4 b1 b2 o w = some 1 := by
  have hI' := hI
  obtain ⟨N, G, hG, v, r⟩ := hI
  have hN := v.1.1
  unfold L_law_C25
  exact fin_q hK hI' (by exact mostAlert_e v.1) (by unfold X2_mostAlert; rw [alertest_e v r, bd1_some, told_e, bd2_some])
theorem c15 {xs : Nat → Int32} {L : Nat} {K : S2 → S2 → (Nat → Int64) → S2 → Option Int32} {l4 : Int32} {b1 b2 w : S2} {o : Nat → Int64} {a : Int32} (hK : KH K) (hI : LI b1 w) (ha : ldA xs L (l4 + 1) = some a) : L_law_C15 xs L K l4 b1 b2 o w = some 1 := by
  obtain ⟨N, G, hG, v, r⟩ := hI
  have hN := v.1.1
  have r0 := RM_t r hN (by omega) 0
  have hI0 : LI b1 (up2 w 0 0 0) := ⟨N, G, hG, v, r0⟩
  unfold L_law_C15
  rcases argT v.1 a with ⟨t, ht, rfl, e1, e2⟩ | ⟨e1, e2⟩
  · have E1 : L_stateOf b1 b2 o (nI t) = some (0, vp_updL o 0 (Int32.toInt64 (b1 5 t))) := by
      unfold L_stateOf
      rw [stateOf_1 (by omega) e1, bc1_r, stL_0, bd1_some]
    have E2 : X2_stateOf w (nI t) = some (b1 5 t, up2 w 0 0 0) := by
      unfold X2_stateOf
      rw [bd1_some, e2 _ r0.1.1, bd1_some, if_neg (by decide), tr0 (by omega), bd1_some, (r0.2.2.1 t ht).2.2.1]
    rw [ha, bd1_some, E1, bd2_some, bd1_some, E2, bd2_some]
    exact fin_v hK hI0 rfl (fun _ => rfl)
  · have E1 : L_stateOf b1 b2 o a = some (1, o) := by
      unfold L_stateOf X1_stateOf
      rw [reqT_0 e1]; rfl
    have E2 : X2_stateOf w a = some (0, up2 (up2 w 0 0 0) 0 0 1) := by
      unfold X2_stateOf
      rw [bd1_some, e2 _ r0.1.1]; rfl
    rw [ha, bd1_some, E1, bd2_some, bd1_some, E2, bd2_some]
    exact fin_v hK (LI_t hI0 1) rfl (fun z => absurd z (by decide))
theorem c16 {xs : Nat → Int32} {L : Nat} {K : S2 → S2 → (Nat → Int64) → S2 → Option Int32} {l4 : Int32} {b1 b2 w : S2} {o : Nat → Int64} {a : Int32} (hK : KH K) (hI : LI b1 w) (ha : ldA xs L (l4 + 1) = some a) : L_law_C16 xs L K l4 b1 b2 o w = some 1 := by
  obtain ⟨N, G, hG, v, r⟩ := hI
  have hN := v.1.1
  have r0 := RM_t r hN (by omega) 0
  have hI0 : LI b1 (up2 w 0 0 0) := ⟨N, G, hG, v, r0⟩
  unfold L_law_C16
  rcases argT v.1 a with ⟨t, ht, rfl, e1, e2⟩ | ⟨e1, e2⟩
  · have E1 : L_hiddenOf b1 b2 o (nI t) = some (0, vp_updL o 0 (Int32.toInt64 (hid (b1 1 t) (b1 2 t)))) := by
      unfold L_hiddenOf
      rw [hiddenOf_1 (by omega) e1, bc1_r, stL_0, bd1_some]
    have E2 : X2_hiddenOf w (nI t) = some (hid (b1 1 t) (b1 2 t), up2 w 0 0 0) := by
      unfold X2_hiddenOf
      rw [bd1_some, e2 _ r0.1.1, bd1_some, if_neg (by decide), hidden_m r0 hN ht, bd1_some]
    rw [ha, bd1_some, E1, bd2_some, bd1_some, E2, bd2_some]
    exact fin_v hK hI0 rfl (fun _ => rfl)
  · have E1 : L_hiddenOf b1 b2 o a = some (1, o) := by
      unfold L_hiddenOf X1_hiddenOf
      rw [reqT_0 e1]; rfl
    have E2 : X2_hiddenOf w a = some (0, up2 (up2 w 0 0 0) 0 0 1) := by
      unfold X2_hiddenOf
      rw [bd1_some, e2 _ r0.1.1]; rfl
    rw [ha, bd1_some, E1, bd2_some, bd1_some, E2, bd2_some]
    exact fin_v hK (LI_t hI0 1) rfl (fun z => absurd z (by decide))
theorem c17 {xs : Nat → Int32} {L : Nat} {K : S2 → S2 → (Nat → Int64) → S2 → Option Int32} {l4 : Int32} {b1 b2 w : S2} {o : Nat → Int64} {a : Int32} (hK : KH K) (hI : LI b1 w) (ha : ldA xs L (l4 + 1) = some a) : L_law_C17 xs L K l4 b1 b2 o w = some 1 := by
  obtain ⟨N, G, hG, v, r⟩ := hI
  have hN := v.1.1
  have r0 := RM_t r hN (by omega) 0
  have hI0 : LI b1 (up2 w 0 0 0) := ⟨N, G, hG, v, r0⟩
  unfold L_law_C17
  rcases argT v.1 a with ⟨t, ht, rfl, e1, e2⟩ | ⟨e1, e2⟩
  · have E1 : L_lullabyOf b1 b2 o (nI t) = some (0, vp_updL o 0 (Int32.toInt64 (b1 4 t))) := by
      unfold L_lullabyOf
      rw [lullabyOf_1 (by omega) e1, bc1_r, stL_0, bd1_some]
    have E2 : X2_lullabyOf w (nI t) = some (b1 4 t, up2 w 0 0 0) := by
      unfold X2_lullabyOf
      rw [bd1_some, e2 _ r0.1.1, bd1_some, if_neg (by decide), tr1 (by omega), bd1_some, (r0.2.2.1 t ht).2.2.2.1]
    rw [ha, bd1_some, E1, bd2_some, bd1_some, E2, bd2_some]
    exact fin_v hK hI0 rfl (fun _ => rfl)
  · have E1 : L_lullabyOf b1 b2 o a = some (1, o) := by
      unfold L_lullabyOf X1_lullabyOf
      rw [reqT_0 e1]; rfl
    have E2 : X2_lullabyOf w a = some (0, up2 (up2 w 0 0 0) 0 0 1) := by
      unfold X2_lullabyOf
      rw [bd1_some, e2 _ r0.1.1]; rfl
    rw [ha, bd1_some, E1, bd2_some, bd1_some, E2, bd2_some]
    exact fin_v hK (LI_t hI0 1) rfl (fun z => absurd z (by decide))
theorem c18 {xs : Nat → Int32} {L : Nat} {K : S2 → S2 → (Nat → Int64) → S2 → Option Int32} {l4 : Int32} {b1 b2 w : S2} {o : Nat → Int64} {a : Int32} (hK : KH K) (hI : LI b1 w) (ha : ldA xs L (l4 + 1) = some a) : L_law_C18 xs L K l4 b1 b2 o w = some 1 := by
  obtain ⟨N, G, hG, v, r⟩ := hI
  have hN := v.1.1
  have r0 := RM_t r hN (by omega) 0
  have hI0 : LI b1 (up2 w 0 0 0) := ⟨N, G, hG, v, r0⟩
  unfold L_law_C18
  rcases argT v.1 a with ⟨t, ht, rfl, e1, e2⟩ | ⟨e1, e2⟩
  · have E1 : L_placeInLine b1 b2 o (nI t) = some (0, vp_updL o 0 (Int32.toInt64 (plc b1 t))) := by
      unfold L_placeInLine
      rw [placeInLine_1 v.1 ht e1, bc1_r, stL_0, bd1_some]
    have E2 : X2_placeInLine w (nI t) = some (plc b1 t, up2 w 0 0 0) := by
      unfold X2_placeInLine
      rw [bd1_some, e2 _ r0.1.1, bd1_some, if_neg (by decide), place_m r0 hN ht, bd1_some]
    rw [ha, bd1_some, E1, bd2_some, bd1_some, E2, bd2_some]
    exact fin_v hK hI0 rfl (fun _ => rfl)
  · have E1 : L_placeInLine b1 b2 o a = some (1, o) := by
      unfold L_placeInLine X1_placeInLine
      rw [reqT_0 e1]; rfl
    have E2 : X2_placeInLine w a = some (0, up2 (up2 w 0 0 0) 0 0 1) := by
      unfold X2_placeInLine
      rw [bd1_some, e2 _ r0.1.1]; rfl
    rw [ha, bd1_some, E1, bd2_some, bd1_some, E2, bd2_some]
    exact fin_v hK (LI_t hI0 1) rfl (fun z => absurd z (by decide))
theorem c19 {xs : Nat → Int32} {L : Nat} {K : S2 → S2 → (Nat → Int64) → S2 → Option Int32} {l4 : Int32} {b1 b2 w : S2} {o : Nat → Int64} {a : Int32} (hK : KH K) (hI : LI b1 w) (ha : ldA xs L (l4 + 1) = some a) : L_law_C19 xs L K l4 b1 b2 o w = some 1 := by
  obtain ⟨N, G, hG, v, r⟩ := hI
  have hN := v.1.1
  have r0 := RM_t r hN (by omega) 0
  have hI0 : LI b1 (up2 w 0 0 0) := ⟨N, G, hG, v, r0⟩
  unfold L_law_C19
  rcases argT v.1 a with ⟨t, ht, rfl, e1, e2⟩ | ⟨e1, e2⟩
  · have E1 : L_searchTime b1 b2 o (nI t) = some (0, vp_updL o 0 (Int32.toInt64 (stime N b1 t))) := by
      unfold L_searchTime
      rw [searchTime_1 v.1 ht e1, bc1_r, stL_0, bd1_some]
    have E2 : X2_searchTime w (nI t) = some (stime N b1 t, up2 w 0 0 0) := by
      unfold X2_searchTime
      rw [bd1_some, e2 _ r0.1.1, bd1_some, if_neg (by decide), takes_m r0 hN ht, bd1_some]
    rw [ha, bd1_some, E1, bd2_some, bd1_some, E2, bd2_some]
    exact fin_v hK hI0 rfl (fun _ => rfl)
  · have E1 : L_searchTime b1 b2 o a = some (1, o) := by
      unfold L_searchTime X1_searchTime
      rw [reqT_0 e1]; rfl
    have E2 : X2_searchTime w a = some (0, up2 (up2 w 0 0 0) 0 0 1) := by
      unfold X2_searchTime
      rw [bd1_some, e2 _ r0.1.1]; rfl
    rw [ha, bd1_some, E1, bd2_some, bd1_some, E2, bd2_some]
    exact fin_v hK (LI_t hI0 1) rfl (fun z => absurd z (by decide))
theorem c21 {xs : Nat → Int32} {L : Nat} {K : S2 → S2 → (Nat → Int64) → S2 → Option Int32} {l4 : Int32} {b1 b2 w : S2} {o : Nat → Int64} {a : Int32} (hK : KH K) (hI : LI b1 w) (ha : ldA xs L (l4 + 1) = some a) : L_law_C21 xs L K l4 b1 b2 o w = some 1 := by
  obtain ⟨N, G, hG, v, r⟩ := hI
  have hN := v.1.1
  have r0 := RM_t r hN (by omega) 0
  have hI0 : LI b1 (up2 w 0 0 0) := ⟨N, G, hG, v, r0⟩
  unfold L_law_C21
  rcases argG v.1 a with ⟨g, hg, rfl, e1, e2⟩ | ⟨e1, e2⟩
  · have E1 : L_alertnessOf b1 b2 o (nI g) = some (0, vp_updL o 0 (Int32.toInt64 (b1 8 g))) := by
      unfold L_alertnessOf
      rw [alertnessOf_1 (by omega) e1, bc1_r, stL_0, bd1_some]
    have E2 : X2_alertnessOf w (nI g) = some (b1 8 g, up2 w 0 0 0) := by
      unfold X2_alertnessOf X2_guard
      rw [bd1_some, e2 _ r0.1.2.2.2.2, bd1_some, if_neg (by decide), gu0 (by omega), bd1_some, bd2_some, (r0.2.1 g hg).1]
    rw [ha, bd1_some, E1, bd2_some, bd1_some, E2, bd2_some]
    exact fin_v hK hI0 rfl (fun _ => rfl)
  · have E1 : L_alertnessOf b1 b2 o a = some (1, o) := by
      unfold L_alertnessOf X1_alertnessOf
      rw [reqG_0 e1]; rfl
    have E2 : X2_alertnessOf w a = some (0, up2 (up2 w 0 0 0) 0 0 1) := by
      unfold X2_alertnessOf X2_guard
      rw [bd1_some, e2 _ r0.1.2.2.2.2]; rfl
    rw [ha, bd1_some, E1, bd2_some, bd1_some, E2, bd2_some]
    exact fin_v hK (LI_t hI0 1) rfl (fun z => absurd z (by decide))
theorem c22 {xs : Nat → Int32} {L : Nat} {K : S2 → S2 → (Nat → Int64) → S2 → Option Int32} {l4 : Int32} {b1 b2 w : S2} {o : Nat → Int64} {a : Int32} (hK : KH K) (hI : LI b1 w) (ha : ldA xs L (l4 + 1) = some a) : L_law_C22 xs L K l4 b1 b2 o w = some 1 := by
  obtain ⟨N, G, hG, v, r⟩ := hI
  have hN := v.1.1
  have r0 := RM_t r hN (by omega) 0
  have hI0 : LI b1 (up2 w 0 0 0) := ⟨N, G, hG, v, r0⟩
  unfold L_law_C22
  rcases argG v.1 a with ⟨g, hg, rfl, e1, e2⟩ | ⟨e1, e2⟩
  · have E1 : L_searches b1 b2 o (nI g) = some (0, vp_updL o 0 (Int32.toInt64 (b1 9 g))) := by
      unfold L_searches
      rw [searches_1 (by omega) e1, bc1_r, stL_0, bd1_some]
    have E2 : X2_searches w (nI g) = some (b1 9 g, up2 w 0 0 0) := by
      unfold X2_searches X2_guard
      rw [bd1_some, e2 _ r0.1.2.2.2.2, bd1_some, if_neg (by decide), gu1 (by omega), bd1_some, bd2_some, (r0.2.1 g hg).2.1]
    rw [ha, bd1_some, E1, bd2_some, bd1_some, E2, bd2_some]
    exact fin_v hK hI0 rfl (fun _ => rfl)
  · have E1 : L_searches b1 b2 o a = some (1, o) := by
      unfold L_searches X1_searches
      rw [reqG_0 e1]; rfl
    have E2 : X2_searches w a = some (0, up2 (up2 w 0 0 0) 0 0 1) := by
      unfold X2_searches X2_guard
      rw [bd1_some, e2 _ r0.1.2.2.2.2]; rfl
    rw [ha, bd1_some, E1, bd2_some, bd1_some, E2, bd2_some]
    exact fin_v hK (LI_t hI0 1) rfl (fun z => absurd z (by decide))
theorem c23 {xs : Nat → Int32} {L : Nat} {K : S2 → S2 → (Nat → Int64) → S2 → Option Int32} {l4 : Int32} {b1 b2 w : S2} {o : Nat → Int64} {a : Int32} (hK : KH K) (hI : LI b1 w) (ha : ldA xs L (l4 + 1) = some a) : L_law_C23 xs L K l4 b1 b2 o w = some 1 := by
  obtain ⟨N, G, hG, v, r⟩ := hI
  have hN := v.1.1
  have r0 := RM_t r hN (by omega) 0
  have hI0 : LI b1 (up2 w 0 0 0) := ⟨N, G, hG, v, r0⟩
  unfold L_law_C23
  rcases argG v.1 a with ⟨g, hg, rfl, e1, e2⟩ | ⟨e1, e2⟩
  · have E1 : L_minutesToGo b1 b2 o (nI g) = some (0, vp_updL o 0 (Int32.toInt64 (b1 10 g))) := by
      unfold L_minutesToGo
      rw [minutesToGo_1 (by omega) e1, bc1_r, stL_0, bd1_some]
    have E2 : X2_minutesToGo w (nI g) = some (b1 10 g, up2 w 0 0 0) := by
      unfold X2_minutesToGo X2_guard
      rw [bd1_some, e2 _ r0.1.2.2.2.2, bd1_some, if_neg (by decide), gu2 (by omega), bd1_some, bd2_some, (r0.2.1 g hg).2.2]
    rw [ha, bd1_some, E1, bd2_some, bd1_some, E2, bd2_some]
    exact fin_v hK hI0 rfl (fun _ => rfl)
  · have E1 : L_minutesToGo b1 b2 o a = some (1, o) := by
      unfold L_minutesToGo X1_minutesToGo
      rw [reqG_0 e1]; rfl
    have E2 : X2_minutesToGo w a = some (0, up2 (up2 w 0 0 0) 0 0 1) := by
      unfold X2_minutesToGo X2_guard
      rw [bd1_some, e2 _ r0.1.2.2.2.2]; rfl
    rw [ha, bd1_some, E1, bd2_some, bd1_some, E2, bd2_some]
    exact fin_v hK (LI_t hI0 1) rfl (fun z => absurd z (by decide))
theorem fnd_01 (b : S2) (g t : Nat) : fnd b g t = 0 ∨ fnd b g t = 1 := by
  unfold fnd
  split
  · exact Or.inl rfl
  · split
    · exact Or.inl rfl
    · exact Or.inr rfl
theorem c24 {xs : Nat → Int32} {L : Nat} {K : S2 → S2 → (Nat → Int64) → S2 → Option Int32} {l4 : Int32} {b1 b2 w : S2} {o : Nat → Int64} {a c : Int32} (hK : KH K) (hI : LI b1 w) (ha : ldA xs L (l4 + 1) = some a) (hc : ldA xs L (l4 + 2) = some c) : L_law_C24 xs L K l4 b1 b2 o w = some 1 := by
  have hI1 := LI_t hI 1
  obtain ⟨N, G, hG, v, r⟩ := hI
  have hN := v.1.1
  have r0 := RM_t r hN (by omega) 0
  have hI0 : LI b1 (up2 w 0 0 0) := ⟨N, G, hG, v, r0⟩
  unfold L_law_C24
  rcases argG v.1 a with ⟨g, hg, rfl, e1, e2⟩ | ⟨e1, e2⟩
  · rcases argT v.1 c with ⟨t, ht, rfl, f1, f2⟩ | ⟨f1, f2⟩
    · have e3 : X1_wouldFind b1 b2 (nI g) (nI t) = bd1 (bl (fnd b1 g t)) fun _ => some (.inr (fnd b1 g t)) := by
        unfold X1_wouldFind
        rw [reqG_1 e1, bx0_r, reqT_1 f1, bx0_r, finds_e (by omega) (by omega), bd1_some]
      have e4 : X2_wouldFind w (nI g) (nI t) = if fnd b1 g t = 0 then some (0, up2 w 0 0 0) else some (1, up2 w 0 0 0) := by
        unfold X2_wouldFind
        rw [e2 _ r.1.2.2.2.2, bd1_some, if_neg (by decide), f2 _ r.1.1, bd1_some, if_neg (by decide), bd1_some, if_pos (show (up2 w 0 0 0) 0 0 = 0 from rfl), finds_m r0 hN (by omega) ht hg, bd1_some]
      unfold L_wouldFind
      rcases fnd_01 b1 g t with z | z
      · rw [z, bl0, bd1_some] at e3
        rw [z, if_pos rfl] at e4
        rw [ha, bd1_some, hc, bd1_some, e3, bc1_r, if_pos rfl, stL_0, bd1_some, bd2_some, bd1_some, bd1_some, e4, bd2_some, thr_e, bd1_some, if_pos (show (up2 w 0 0 0) 0 0 = 0 from rfl), if_pos rfl, ldL_0, bd1_some, if_pos rfl, if_pos (lgc _)]
        exact hK _ _ _ _ hI0
      · rw [z, bl1, bd1_some] at e3
        rw [z, if_neg (by decide)] at e4
        rw [ha, bd1_some, hc, bd1_some, e3, bc1_r, if_neg (by decide), stL_0, bd1_some, bd2_some, bd1_some, bd1_some, e4, bd2_some, thr_e, bd1_some, if_pos (show (up2 w 0 0 0) 0 0 = 0 from rfl), if_pos rfl, ldL_0, bd1_some, if_neg (by decide), if_pos (lgc _)]
        exact hK _ _ _ _ hI0
    · have e3 : L_wouldFind b1 b2 o (nI g) c = some (1, o) := by
        unfold L_wouldFind X1_wouldFind
        rw [reqG_1 e1, bx0_r, reqT_0 f1]; rfl
      have e4 : X2_wouldFind w (nI g) c = some (0, up2 w 0 0 1) := by
        unfold X2_wouldFind
        rw [e2 _ r.1.2.2.2.2, bd1_some, if_neg (by decide), f2 _ r.1.1]; rfl
      rw [ha, bd1_some, hc, bd1_some, e3, bd2_some, bd1_some, bd1_some, e4, bd2_some, thr_e, bd1_some, if_pos (show (up2 w 0 0 1) 0 0 = 1 from rfl), if_neg (by decide)]
      exact hK _ _ _ _ hI1
  · have e3 : L_wouldFind b1 b2 o a c = some (1, o) := by
      unfold L_wouldFind X1_wouldFind
      rw [reqG_0 e1]; rfl
    have e4 : X2_wouldFind w a c = some (0, up2 w 0 0 1) := by
      unfold X2_wouldFind
      rw [e2 _ r.1.2.2.2.2]; rfl
    rw [ha, bd1_some, hc, bd1_some, e3, bd2_some, bd1_some, bd1_some, e4, bd2_some, thr_e, bd1_some, if_pos (show (up2 w 0 0 1) 0 0 = 1 from rfl), if_neg (by decide)]
    exact hK _ _ _ _ hI1
