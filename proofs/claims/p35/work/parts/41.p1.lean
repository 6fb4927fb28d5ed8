/-! PURE 1: reads, writes, and the class's inner functions as total functions of the border's state (component, place) -/
theorem bd1_some {α γ : Type} (x : α) (K : α → Option γ) : bd1 (some x) K = K x := rfl
theorem bd2_some {α β γ : Type} (x : α) (y : β) (K : α → β → Option γ) : bd2 (some (x, y)) K = K x y := rfl
theorem bd3_some {α β δ γ : Type} (x : α) (y : β) (z : δ) (K : α → β → δ → Option γ) : bd3 (some (x, y, z)) K = K x y z := rfl
theorem bx0_r {γ : Type} (K : Option (Nat ⊕ γ)) : bx0 (some (.inr ())) K = K := rfl
theorem bx0_l {γ : Type} (n : Nat) (K : Option (Nat ⊕ γ)) : bx0 (some (.inl n)) K = some (.inl n) := rfl
theorem ldA_n {f : Nat → Int32} {n k : Nat} (h : k < n) (hn : n < 2 ^ 31) : ldA f n (nI k) = some (f k) := by
  unfold ldA
  rw [if_neg (nI_in h hn), nI_clamp (by omega)]
theorem ldL_n {f : Nat → Int64} {n k : Nat} (h : k < n) (hn : n < 2 ^ 31) : ldL f n (nI k) = some (f k) := by
  unfold ldL
  rw [if_neg (nI_in h hn), nI_clamp (by omega)]
theorem stA_n {b : S2} {c n k : Nat} {v : Int32} (h : k < n) (hn : n < 2 ^ 31) : stA b c n (nI k) v = some (up2 b c k v) := by
  unfold stA
  rw [if_neg (nI_in h hn), nI_clamp (by omega)]
theorem stF_n {f : Nat → Int32} {n k : Nat} {v : Int32} (h : k < n) (hn : n < 2 ^ 31) : stF f n (nI k) v = some (upd f k v) := by
  unfold stF
  rw [if_neg (nI_in h hn), nI_clamp (by omega)]
theorem nI_m1 (k : Nat) (h : k < 2 ^ 31) : nI k ≠ -1 := by
  intro e
  have := congrArg Int32.toInt e
  rw [nI_toInt h] at this
  have h2 : (-1 : Int32).toInt = -1 := by decide
  omega
theorem n1_neg : (-1 : Int32) < 0 := by decide
theorem a0 (x : Int32) : x + 0 = x := Int32.add_zero x
theorem i0 : (0 : Int32) = nI 0 := rfl
/-- the border's numbers: N travellers, G guards -/
def Hd (N G : Nat) (b : S2) : Prop := N ≤ 24 ∧ G ≤ 8 ∧ b 0 3 = nI N ∧ b 0 4 = nI G
/-! counts over a row of states -/
def ca (st : Nat → Int32) (k : Int32) : Nat → Nat → Int32 → Int32
  | 0, _, c => c
  | m + 1, t, c => ca st k m (t + 1) (if st t = k then c + 1 else c)
def la (st sn : Nat → Int32) : Nat → Nat → Int32 → Int32
  | 0, _, c => c
  | m + 1, t, c => la st sn m (t + 1) (if st t = 2 then c + sn t else c)
def fa (st : Nat → Int32) : Nat → Nat → Int32
  | 0, _ => -1
  | m + 1, t => if st t = 0 then nI t else fa st m (t + 1)
def sa (al : Nat → Int32) : Nat → Nat → Int32 → Int32
  | 0, _, c => c
  | m + 1, g, c => sa al m (g + 1) (c + al g)
def itn {α : Type} (f : α → Nat → α) : Nat → Nat → α → α
  | 0, _, b => b
  | m + 1, t, b => itn f m (t + 1) (f b t)
theorem ca_congr {st st' : Nat → Int32} {k : Int32} : ∀ (m t : Nat) (c : Int32), (∀ i, t ≤ i → i < t + m → st i = st' i) → ca st k m t c = ca st' k m t c := by
  intro m
  induction m with
  | zero => intro t c h; rfl
  | succ m ih =>
    intro t c h
    simp only [ca]
    rw [h t (by omega) (by omega)]
    exact ih _ _ (fun i h1 h2 => h i (by omega) (by omega))
theorem la_congr {st st' sn sn' : Nat → Int32} : ∀ (m t : Nat) (c : Int32), (∀ i, t ≤ i → i < t + m → st i = st' i ∧ sn i = sn' i) → la st sn m t c = la st' sn' m t c := by
  intro m
  induction m with
  | zero => intro t c h; rfl
  | succ m ih =>
    intro t c h
    simp only [la]
    rw [(h t (by omega) (by omega)).1, (h t (by omega) (by omega)).2]
    exact ih _ _ (fun i h1 h2 => h i (by omega) (by omega))
theorem fa_congr {st st' : Nat → Int32} : ∀ (m t : Nat), (∀ i, t ≤ i → i < t + m → st i = st' i) → fa st m t = fa st' m t := by
  intro m
  induction m with
  | zero => intro t h; rfl
  | succ m ih =>
    intro t h
    simp only [fa]
    rw [h t (by omega) (by omega)]
    rw [ih _ (fun i h1 h2 => h i (by omega) (by omega))]
theorem sa_congr {st st' : Nat → Int32} : ∀ (m t : Nat) (c : Int32), (∀ i, t ≤ i → i < t + m → st i = st' i) → sa st m t c = sa st' m t c := by
  intro m
  induction m with
  | zero => intro t c h; rfl
  | succ m ih =>
    intro t c h
    simp only [sa]
    rw [h t (by omega) (by omega)]
    exact ih _ _ (fun i h1 h2 => h i (by omega) (by omega))
theorem fa_cases (st : Nat → Int32) : ∀ (m t : Nat), (fa st m t = -1 ∧ ∀ i, t ≤ i → i < t + m → st i ≠ 0) ∨ ∃ i, t ≤ i ∧ i < t + m ∧ st i = 0 ∧ fa st m t = nI i := by
  intro m
  induction m with
  | zero => intro t; exact Or.inl ⟨rfl, fun i h1 h2 => absurd h2 (by omega)⟩
  | succ m ih =>
    intro t
    simp only [fa]
    by_cases h : st t = 0
    · rw [if_pos h]
      exact Or.inr ⟨t, by omega, by omega, h, rfl⟩
    · rw [if_neg h]
      rcases ih (t + 1) with ⟨h1, h2⟩ | ⟨i, h1, h2, h3, h4⟩
      · refine Or.inl ⟨h1, fun i g1 g2 => ?_⟩
        by_cases e : i = t
        · rw [e]; exact h
        · exact h2 i (by omega) (by omega)
      · exact Or.inr ⟨i, by omega, by omega, h3, h4⟩
theorem pos_fuel {m n : Nat} (h : m < n) : ∃ n', n = n' + 1 := ⟨n - 1, by omega⟩
theorem countIn_L {b : S2} {N : Nat} (hN : b 0 3 = nI N) (hN' : N ≤ 24) (k : Int32) : ∀ (m n t : Nat) (c : Int32), t + m = N → m < n → X0_countIn_L4 k b n c (nI t) = some (ca (b 5) k m t c) := by
  intro m
  induction m with
  | zero =>
    intro n t c ht hn
    obtain ⟨n, rfl⟩ := pos_fuel hn
    rw [X0_countIn_L4, hN, if_pos (nI_le (by omega) (by omega))]
    rfl
  | succ m ih =>
    intro n t c ht hn
    obtain ⟨n, rfl⟩ := pos_fuel hn
    rw [X0_countIn_L4, hN, if_neg (nI_ge (by omega) (by omega)), ldA_n (by omega) (by omega), bd1_some]
    simp only [ca]
    by_cases h : b 5 t = k
    · rw [if_pos h, if_pos h, nI_1]
      exact ih n (t + 1) (c + 1) (by omega) (by omega)
    · rw [if_neg h, if_neg h, nI_1]
      exact ih n (t + 1) c (by omega) (by omega)
theorem countIn_e {b : S2} {N G : Nat} (h : Hd N G b) (k : Int32) : X0_countIn b k = some (ca (b 5) k N 0 0) := countIn_L h.2.2.1 h.1 k N 200 0 0 (by omega) (by have := h.1; omega)
theorem ahead_L {b : S2} {N T : Nat} (hN : b 0 3 = nI N) (hN' : N ≤ 24) (hT : T ≤ N) : ∀ (m n t : Nat) (c : Int32), t + m = T → m < n → X0_waitingAhead_L4 (nI T) b n c (nI t) = some (ca (b 5) 0 m t c) := by
  intro m
  induction m with
  | zero =>
    intro n t c ht hn
    obtain ⟨n, rfl⟩ := pos_fuel hn
    rw [X0_waitingAhead_L4, hN]
    by_cases h : nI N ≤ nI t
    · rw [if_pos h]; rfl
    · rw [if_neg h, if_pos (nI_le (by omega) (by omega))]; rfl
  | succ m ih =>
    intro n t c ht hn
    obtain ⟨n, rfl⟩ := pos_fuel hn
    rw [X0_waitingAhead_L4, hN, if_neg (nI_ge (by omega) (by omega)), if_neg (nI_ge (by omega) (by omega)), ldA_n (by omega) (by omega), bd1_some]
    simp only [ca]
    by_cases h : b 5 t = 0
    · rw [if_pos h, if_pos h, nI_1]
      exact ih n (t + 1) (c + 1) (by omega) (by omega)
    · rw [if_neg h, if_neg h, nI_1]
      exact ih n (t + 1) c (by omega) (by omega)
theorem ahead_e {b : S2} {N G T : Nat} (h : Hd N G b) (hT : T ≤ N) : X0_waitingAhead b (nI T) = some (ca (b 5) 0 T 0 0) := ahead_L h.2.2.1 h.1 hT T 200 0 0 (by omega) (by have := h.1; omega)
theorem first_L {b : S2} {N : Nat} (hN : b 0 3 = nI N) (hN' : N ≤ 24) : ∀ (m n t : Nat), t + m = N → m < n → X0_firstWaiting_L2 b n (nI t) = some (fa (b 5) m t) := by
  intro m
  induction m with
  | zero =>
    intro n t ht hn
    obtain ⟨n, rfl⟩ := pos_fuel hn
    rw [X0_firstWaiting_L2, hN, if_pos (nI_le (by omega) (by omega))]
    rfl
  | succ m ih =>
    intro n t ht hn
    obtain ⟨n, rfl⟩ := pos_fuel hn
    rw [X0_firstWaiting_L2, hN, if_neg (nI_ge (by omega) (by omega)), ldA_n (by omega) (by omega), bd1_some]
    simp only [fa]
    by_cases h : b 5 t = 0
    · rw [if_pos h, if_pos h]
    · rw [if_neg h, if_neg h, nI_1]
      exact ih n (t + 1) (by omega) (by omega)
theorem first_e {b : S2} {N G : Nat} (h : Hd N G b) : X0_firstWaiting b = some (fa (b 5) N 0) := first_L h.2.2.1 h.1 N 200 0 (by omega) (by have := h.1; omega)
theorem snores_L {b : S2} {N : Nat} (hN : b 0 3 = nI N) (hN' : N ≤ 24) : ∀ (m n t : Nat) (c : Int32), t + m = N → m < n → X0_addedSnores_L4 b n c (nI t) = some (la (b 5) (b 3) m t c) := by
  intro m
  induction m with
  | zero =>
    intro n t c ht hn
    obtain ⟨n, rfl⟩ := pos_fuel hn
    rw [X0_addedSnores_L4, hN, if_pos (nI_le (by omega) (by omega))]
    rfl
  | succ m ih =>
    intro n t c ht hn
    obtain ⟨n, rfl⟩ := pos_fuel hn
    rw [X0_addedSnores_L4, hN, if_neg (nI_ge (by omega) (by omega)), ldA_n (by omega) (by omega), bd1_some]
    simp only [la]
    by_cases h : b 5 t = 2
    · rw [if_pos h, if_pos h, ldA_n (by omega) (by omega), bd1_some, nI_1]
      exact ih n (t + 1) _ (by omega) (by omega)
    · rw [if_neg h, if_neg h, nI_1]
      exact ih n (t + 1) c (by omega) (by omega)
theorem snores_e {b : S2} {N G : Nat} (h : Hd N G b) : X0_addedSnores b = some (la (b 5) (b 3) N 0 0) := snores_L h.2.2.1 h.1 N 200 0 0 (by omega) (by have := h.1; omega)
def hid (x y : Int32) : Int32 := if x - y < 0 then 0 else x - y
theorem hid_le (x : Int32) : (if x ≤ 0 then some 0 else some x) = some (if x < 0 then (0 : Int32) else x) := by
  by_cases h1 : x < 0
  · rw [if_pos h1, if_pos (Int32.le_of_lt h1)]
  · rw [if_neg h1]
    by_cases h2 : x ≤ 0
    · rw [if_pos h2]
      have : x = 0 := by
        rw [Int32.lt_iff_toInt_lt] at h1
        rw [Int32.le_iff_toInt_le] at h2
        exact Int32.toInt_inj.mp (by omega)
      rw [this]
    · rw [if_neg h2]
theorem hidden_e {b : S2} {t : Nat} (ht : t < 24) : X0_hiddenDreams b (nI t) = some (hid (b 1 t) (b 2 t)) := by
  unfold X0_hiddenDreams
  rw [ldA_n (by omega) (by omega), bd1_some, ldA_n (by omega) (by omega), bd1_some]
  exact hid_le _
def stime (N : Nat) (b : S2) (t : Nat) : Int32 := (2 + b 2 t) + (la (b 5) (b 3) N 0 0 / 4)
theorem searchMin_e {b : S2} {N G t : Nat} (h : Hd N G b) (ht : t < 24) : X0_searchMinutes b (nI t) = some (stime N b t) := by
  unfold X0_searchMinutes
  rw [ldA_n (by omega) (by omega), bd1_some, snores_e h, bd1_some]
  rfl
def fnd (b : S2) (g t : Nat) : Int32 := if hid (b 1 t) (b 2 t) ≤ 0 then 0 else if hid (b 1 t) (b 2 t) + b 8 g < 10 then 0 else 1
theorem finds_e {b : S2} {g t : Nat} (ht : t < 24) (hg : g < 8) : X0_finds b (nI g) (nI t) = some (fnd b g t) := by
  unfold X0_finds fnd
  rw [hidden_e ht, bd1_some, ldA_n (by omega) (by omega), bd1_some]
  split
  · rfl
  · split <;> rfl
theorem isT_1 {b : S2} {N t : Nat} (hN : b 0 3 = nI N) (hN' : N ≤ 24) (ht : t < N) : X0_isTraveller b (nI t) = some 1 := by
  unfold X0_isTraveller
  rw [if_neg (nI_pos (by omega)), hN, if_neg (nI_ge ht (by omega))]
theorem isT_0 (b : S2) : X0_isTraveller b (-1) = some 0 := by
  unfold X0_isTraveller
  rw [if_pos n1_neg]
