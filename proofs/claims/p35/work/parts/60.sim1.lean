/-! PURE 60: the law's own object against the class's border: in what they are alike; its questions -/
def SR (N G : Nat) (u b : S2) : Prop :=
  (u 0 0 = b 0 0 ∧ u 0 1 = b 0 1 ∧ u 0 2 = b 0 2 ∧ u 0 3 = nI N ∧ u 0 4 = nI G) ∧
  (∀ g, g < G → u 8 g = b 8 g ∧ u 9 g = b 9 g ∧ u 10 g = b 10 g) ∧
  (∀ t, t < N → u 1 t = b 1 t ∧ u 2 t = b 2 t ∧ u 3 t = b 3 t ∧ u 4 t = b 4 t ∧ u 5 t = b 5 t ∧ (b 5 t = 2 → u 6 t = b 6 t))
theorem SR_T {N G : Nat} {u b : S2} (r : SR N G u b) (hN : N ≤ 24) : nT u = N := by
  unfold nT
  rw [r.1.2.2.2.1, nI_clamp (by omega)]
theorem SR_G {N G : Nat} {u b : S2} (r : SR N G u b) (hG : G ≤ 8) : nG u = G := by
  unfold nG
  rw [r.1.2.2.2.2, nI_clamp (by omega)]
theorem inT_n {u : S2} {N t : Nat} (hu : nT u = N) (ht : t < N) (hN : N ≤ 24) : inT u (nI t) = some () := by
  unfold inT
  rw [hu, if_neg (nI_in ht (by omega))]
theorem inG_n {u : S2} {G g : Nat} (hu : nG u = G) (hg : g < G) (hG : G ≤ 8) : inG u (nI g) = some () := by
  unfold inG
  rw [hu, if_neg (nI_in hg (by omega))]
theorem nT_up {u : S2} {k t : Nat} {v : Int32} (h : ¬ (k = 0 ∧ t = 3)) : nT (up2 u k t v) = nT u := by
  unfold nT
  rw [up2_n (by omega)]
theorem nG_up {u : S2} {k t : Nat} {v : Int32} (h : ¬ (k = 0 ∧ t = 4)) : nG (up2 u k t v) = nG u := by
  unfold nG
  rw [up2_n (by omega)]
theorem ldT_0 {u : S2} {M t : Nat} (hu : nT u = M) (ht : t < M) : ldT u t 0 = some (u 1 t) := by
  unfold ldT
  rw [if_neg (by omega)]
theorem stT_0 {u : S2} {M t : Nat} {v : Int32} (hu : nT u = M) (ht : t < M) : stT u t 0 v = some (up2 u 1 t v) := by
  unfold stT
  rw [if_neg (by omega)]
theorem ldT_1 {u : S2} {M t : Nat} (hu : nT u = M) (ht : t < M) : ldT u t 1 = some (u 2 t) := by
  unfold ldT
  rw [if_neg (by omega)]
theorem stT_1 {u : S2} {M t : Nat} {v : Int32} (hu : nT u = M) (ht : t < M) : stT u t 1 v = some (up2 u 2 t v) := by
  unfold stT
  rw [if_neg (by omega)]
theorem ldT_2 {u : S2} {M t : Nat} (hu : nT u = M) (ht : t < M) : ldT u t 2 = some (u 3 t) := by
  unfold ldT
  rw [if_neg (by omega)]
theorem stT_2 {u : S2} {M t : Nat} {v : Int32} (hu : nT u = M) (ht : t < M) : stT u t 2 v = some (up2 u 3 t v) := by
  unfold stT
  rw [if_neg (by omega)]
theorem ldT_3 {u : S2} {M t : Nat} (hu : nT u = M) (ht : t < M) : ldT u t 3 = some (u 4 t) := by
  unfold ldT
  rw [if_neg (by omega)]
theorem stT_3 {u : S2} {M t : Nat} {v : Int32} (hu : nT u = M) (ht : t < M) : stT u t 3 v = some (up2 u 4 t v) := by
  unfold stT
  rw [if_neg (by omega)]
theorem ldT_4 {u : S2} {M t : Nat} (hu : nT u = M) (ht : t < M) : ldT u t 4 = some (u 5 t) := by
  unfold ldT
  rw [if_neg (by omega)]
theorem stT_4 {u : S2} {M t : Nat} {v : Int32} (hu : nT u = M) (ht : t < M) : stT u t 4 v = some (up2 u 5 t v) := by
  unfold stT
  rw [if_neg (by omega)]
theorem ldT_5 {u : S2} {M t : Nat} (hu : nT u = M) (ht : t < M) : ldT u t 5 = some (u 6 t) := by
  unfold ldT
  rw [if_neg (by omega)]
theorem stT_5 {u : S2} {M t : Nat} {v : Int32} (hu : nT u = M) (ht : t < M) : stT u t 5 v = some (up2 u 6 t v) := by
  unfold stT
  rw [if_neg (by omega)]
theorem ldG_0 {u : S2} {M t : Nat} (hu : nG u = M) (ht : t < M) : ldG u t 0 = some (u 8 t) := by
  unfold ldG
  rw [if_neg (by omega)]
theorem stG_0 {u : S2} {M t : Nat} {v : Int32} (hu : nG u = M) (ht : t < M) : stG u t 0 v = some (up2 u 8 t v) := by
  unfold stG
  rw [if_neg (by omega)]
theorem ldG_1 {u : S2} {M t : Nat} (hu : nG u = M) (ht : t < M) : ldG u t 1 = some (u 9 t) := by
  unfold ldG
  rw [if_neg (by omega)]
theorem stG_1 {u : S2} {M t : Nat} {v : Int32} (hu : nG u = M) (ht : t < M) : stG u t 1 v = some (up2 u 9 t v) := by
  unfold stG
  rw [if_neg (by omega)]
theorem ldG_2 {u : S2} {M t : Nat} (hu : nG u = M) (ht : t < M) : ldG u t 2 = some (u 10 t) := by
  unfold ldG
  rw [if_neg (by omega)]
theorem stG_2 {u : S2} {M t : Nat} {v : Int32} (hu : nG u = M) (ht : t < M) : stG u t 2 v = some (up2 u 10 t v) := by
  unfold stG
  rw [if_neg (by omega)]
theorem ite_some {α : Type} {p : Prop} [Decidable p] {x y : α} : (if p then some x else some y) = some (if p then x else y) := by split <;> rfl
theorem ite_some2 {α : Type} {p q : Prop} [Decidable p] [Decidable q] {x y z : α} : (if p then some x else if q then some y else some z) = some (if p then x else if q then y else z) := by
  split
  · rfl
  · split <;> rfl
/-- dreams, declared, snore -/
def Rg (N : Nat) (b : S2) : Prop := ∀ t, t < N → (∃ k, k ≤ 9 ∧ b 1 t = nI k) ∧ (∃ k, k ≤ 9 ∧ b 2 t = nI k) ∧ (∃ k, k ≤ 9 ∧ b 3 t = nI k)
theorem Rg_cg {N : Nat} {b c : S2} (h : Rg N b) (e1 : c 1 = b 1) (e2 : c 2 = b 2) (e3 : c 3 = b 3) : Rg N c := by
  intro t ht
  rw [e1, e2, e3]
  exact h t ht
theorem noise_L {N G : Nat} {u b : S2} (r : SR N G u b) (hN : N ≤ 24) : ∀ (m n t : Nat) (c : Int32), t + m = N → m < n → X2_noise_L13 (nI N) u n c (nI t) = some (la (b 5) (b 3) m t c) := by
  have hT := SR_T r hN
  intro m
  induction m with
  | zero =>
    intro n t c ht hn
    obtain ⟨n, rfl⟩ := pos_fuel hn
    rw [X2_noise_L13, if_pos (nI_le (by omega) (by omega))]
    rfl
  | succ m ih =>
    intro n t c ht hn
    obtain ⟨n, rfl⟩ := pos_fuel hn
    obtain ⟨q1, q2, q3, q4, q5, q6⟩ := r.2.2 t (by omega)
    rw [X2_noise_L13, if_neg (nI_ge (by omega) (by omega)), inT_n hT (by omega) hN, bd1_some, nI_clamp (by omega), ldT_4 hT (by omega), bd1_some, q5]
    simp only [la]
    by_cases h : b 5 t = 2
    · rw [if_pos h, if_pos h, ldT_2 hT (by omega), bd1_some, q3, nI_1]
      exact ih n (t + 1) _ (by omega) (by omega)
    · rw [if_neg h, if_neg h, nI_1]
      exact ih n (t + 1) c (by omega) (by omega)
theorem noise_s {N G : Nat} {u b : S2} (r : SR N G u b) (hN : N ≤ 24) : X2_noise u = some (la (b 5) (b 3) N 0 0) := by
  unfold X2_noise
  rw [SR_T r hN]
  exact noise_L r hN N 200 0 0 (by omega) (by omega)
theorem count_L {N G : Nat} {u b : S2} (r : SR N G u b) (hN : N ≤ 24) (k : Int32) : ∀ (m n t : Nat) (c : Int32), t + m = N → m < n → X2_count_L14 k (nI N) u n c (nI t) = some (ca (b 5) k m t c) := by
  have hT := SR_T r hN
  intro m
  induction m with
  | zero =>
    intro n t c ht hn
    obtain ⟨n, rfl⟩ := pos_fuel hn
    rw [X2_count_L14, if_pos (nI_le (by omega) (by omega))]
    rfl
  | succ m ih =>
    intro n t c ht hn
    obtain ⟨n, rfl⟩ := pos_fuel hn
    obtain ⟨q1, q2, q3, q4, q5, q6⟩ := r.2.2 t (by omega)
    rw [X2_count_L14, if_neg (nI_ge (by omega) (by omega)), inT_n hT (by omega) hN, bd1_some, nI_clamp (by omega), ldT_4 hT (by omega), bd1_some, q5]
    simp only [ca]
    by_cases h : b 5 t = k
    · rw [if_pos h, if_pos h, nI_1]
      exact ih n (t + 1) _ (by omega) (by omega)
    · rw [if_neg h, if_neg h, nI_1]
      exact ih n (t + 1) c (by omega) (by omega)
theorem count_s {N G : Nat} {u b : S2} (r : SR N G u b) (hN : N ≤ 24) (k : Int32) : X2_count u k = some (ca (b 5) k N 0 0) := by
  unfold X2_count
  rw [SR_T r hN]
  exact count_L r hN k N 200 0 0 (by omega) (by omega)
theorem next_L {N G : Nat} {u b : S2} (r : SR N G u b) (hN : N ≤ 24) : ∀ (m n t : Nat), t + m = N → m < n → X2_next_L2 u n (nI t) = some (fa (b 5) m t) := by
  have hT := SR_T r hN
  intro m
  induction m with
  | zero =>
    intro n t ht hn
    obtain ⟨n, rfl⟩ := pos_fuel hn
    have e : t = N := by omega
    subst e
    rw [X2_next_L2, hT, if_pos (nI_le (by omega) (by omega)), if_pos rfl]
    rfl
  | succ m ih =>
    intro n t ht hn
    obtain ⟨n, rfl⟩ := pos_fuel hn
    obtain ⟨q1, q2, q3, q4, q5, q6⟩ := r.2.2 t (by omega)
    rw [X2_next_L2, hT, if_neg (nI_ge (by omega) (by omega)), inT_n hT (by omega) hN, bd1_some, nI_clamp (by omega), ldT_4 hT (by omega), bd1_some, q5]
    simp only [fa]
    by_cases h : b 5 t = 0
    · rw [if_pos h, if_pos h, if_neg (fun e => absurd (nI_inj (by omega) (by omega) e) (by omega))]
    · rw [if_neg h, if_neg h, nI_1]
      exact ih n (t + 1) (by omega) (by omega)
theorem next_s {N G : Nat} {u b : S2} (r : SR N G u b) (hN : N ≤ 24) : X2_next u = some (fa (b 5) N 0) := next_L r hN N 200 0 (by omega) (by omega)
theorem hid2 : ∀ a c : Fin 10, (if nI a.val ≤ nI c.val then (0 : Int32) else nI a.val - nI c.val) = hid (nI a.val) (nI c.val) := by decide +kernel
theorem fnd3 : ∀ a c e : Fin 10, (if nI a.val ≤ nI c.val then (0 : Int32) else if (nI a.val - nI c.val) + nI e.val ≤ 9 then 0 else 1) = (if hid (nI a.val) (nI c.val) ≤ 0 then 0 else if hid (nI a.val) (nI c.val) + nI e.val < 10 then 0 else 1) := by decide +kernel
theorem hidden_s {N G : Nat} {u b : S2} (r : SR N G u b) (hN : N ≤ 24) (g : Rg N b) {t : Nat} (ht : t < N) : X2_hidden u t = some (hid (b 1 t) (b 2 t)) := by
  have hT := SR_T r hN
  obtain ⟨q1, q2, -⟩ := r.2.2 t ht
  obtain ⟨⟨a, ha, ea⟩, ⟨c, hc, ec⟩, -⟩ := g t ht
  unfold X2_hidden
  rw [ldT_0 hT ht, bd1_some, ldT_1 hT ht, bd1_some, bd1_some, bd1_some, ite_some, q1, q2, ea, ec]
  exact congrArg some (hid2 ⟨a, by omega⟩ ⟨c, by omega⟩)
theorem finds_s {N G : Nat} {u b : S2} (r : SR N G u b) (hN : N ≤ 24) (hG : G ≤ 8) (k : Rg N b) {g t : Nat} (hg : g < G) (ht : t < N) (h8 : ∃ e, e ≤ 9 ∧ b 8 g = nI e) : X2_finds u g t = some (fnd b g t) := by
  have hT := SR_T r hN
  have hGu := SR_G r hG
  obtain ⟨q1, q2, -⟩ := r.2.2 t ht
  obtain ⟨p8, -⟩ := r.2.1 g hg
  obtain ⟨⟨a, ha, ea⟩, ⟨c, hc, ec⟩, -⟩ := k t ht
  obtain ⟨e, he, ee⟩ := h8
  unfold X2_finds fnd
  rw [ldT_0 hT ht, bd1_some, ldT_1 hT ht, bd1_some, bd1_some, bd1_some, ldG_0 hGu hg, bd1_some, ite_some2, q1, q2, p8, ea, ec, ee]
  exact congrArg some (fnd3 ⟨a, by omega⟩ ⟨c, by omega⟩ ⟨e, by omega⟩)
