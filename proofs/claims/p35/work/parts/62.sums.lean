/-! PURE 62: sums and counts -/
def sm (f : Nat → Int32) : Nat → Int32
  | 0 => 0
  | n + 1 => sm f n + f n
def smn (f : Nat → Nat) : Nat → Nat
  | 0 => 0
  | n + 1 => smn f n + f n
theorem sm_cg {f g : Nat → Int32} : ∀ n, (∀ i, i < n → f i = g i) → sm f n = sm g n := by
  intro n
  induction n with
  | zero => intro _; rfl
  | succ n ih =>
    intro h
    show sm f n + f n = sm g n + g n
    rw [ih (fun i hi => h i (by omega)), h n (by omega)]
theorem sm_0 {f : Nat → Int32} : ∀ n, (∀ i, i < n → f i = 0) → sm f n = 0 := by
  intro n
  induction n with
  | zero => intro _; rfl
  | succ n ih =>
    intro h
    show sm f n + f n = 0
    rw [ih (fun i hi => h i (by omega)), h n (by omega)]
    rfl
theorem add4 (a b c d : Int32) : a + b + (c + d) = (a + c) + (b + d) := by
  rw [Int32.add_assoc, Int32.add_assoc, ← Int32.add_assoc b c d, Int32.add_comm b c, Int32.add_assoc c b d]
theorem add3 (a b c : Int32) : a + b + c = a + c + b := by
  rw [Int32.add_assoc, Int32.add_comm b c, ← Int32.add_assoc]
theorem sm_add {f g h : Nat → Int32} : ∀ n, (∀ i, i < n → h i = f i + g i) → sm h n = sm f n + sm g n := by
  intro n
  induction n with
  | zero => intro _; rfl
  | succ n ih =>
    intro e
    show sm h n + h n = sm f n + f n + (sm g n + g n)
    rw [ih (fun i hi => e i (by omega)), e n (by omega), add4]
theorem sm_up1 {f g : Nat → Int32} {t : Nat} {d : Int32} : ∀ n, t < n → g t = f t + d → (∀ i, i < n → i ≠ t → g i = f i) → sm g n = sm f n + d := by
  intro n
  induction n with
  | zero => intro h; omega
  | succ n ih =>
    intro ht hd ho
    show sm g n + g n = sm f n + f n + d
    by_cases e : t = n
    · subst e
      rw [sm_cg (f := g) (g := f) t (fun i hi => ho i (by omega) (by omega)), hd, Int32.add_assoc]
    · rw [ih (by omega) hd (fun i hi hn => ho i (by omega) hn), ho n (by omega) (fun q => e q.symm), add3]
theorem sm_nI {f : Nat → Int32} {p : Nat → Nat} : ∀ n, (∀ i, i < n → f i = nI (p i)) → sm f n = nI (smn p n) := by
  intro n
  induction n with
  | zero => intro _; rfl
  | succ n ih =>
    intro h
    show sm f n + f n = nI (smn p n + p n)
    rw [ih (fun i hi => h i (by omega)), h n (by omega), nI_add]
theorem smn_le {p : Nat → Nat} {c : Nat} : ∀ n, (∀ i, i < n → p i ≤ c) → smn p n ≤ c * n := by
  intro n
  induction n with
  | zero => intro _; exact Nat.zero_le _
  | succ n ih =>
    intro h
    have h1 := ih (fun i hi => h i (by omega))
    have h2 := h n (by omega)
    show smn p n + p n ≤ c * (n + 1)
    rw [Nat.mul_add]
    omega
theorem smn_mono {p q : Nat → Nat} : ∀ n, (∀ i, i < n → p i ≤ q i) → smn p n ≤ smn q n := by
  intro n
  induction n with
  | zero => intro _; exact Nat.le_refl _
  | succ n ih =>
    intro h
    have h1 := ih (fun i hi => h i (by omega))
    have h2 := h n (by omega)
    show smn p n + p n ≤ smn q n + q n
    omega
theorem smn_add {f g h : Nat → Nat} : ∀ n, (∀ i, i < n → h i = f i + g i) → smn h n = smn f n + smn g n := by
  intro n
  induction n with
  | zero => intro _; rfl
  | succ n ih =>
    intro e
    show smn h n + h n = smn f n + f n + (smn g n + g n)
    rw [ih (fun i hi => e i (by omega)), e n (by omega)]
    omega
theorem smn_cg {f g : Nat → Nat} : ∀ n, (∀ i, i < n → f i = g i) → smn f n = smn g n := by
  intro n
  induction n with
  | zero => intro _; rfl
  | succ n ih =>
    intro h
    show smn f n + f n = smn g n + g n
    rw [ih (fun i hi => h i (by omega)), h n (by omega)]
theorem smn_z {f : Nat → Nat} : ∀ n, smn f n = 0 → ∀ i, i < n → f i = 0 := by
  intro n
  induction n with
  | zero => intro _ i hi; omega
  | succ n ih =>
    intro h i hi
    have h : smn f n + f n = 0 := h
    by_cases e : i = n
    · subst e; omega
    · exact ih (by omega) i (by omega)
theorem smn_0 {f : Nat → Nat} : ∀ n, (∀ i, i < n → f i = 0) → smn f n = 0 := by
  intro n
  induction n with
  | zero => intro _; rfl
  | succ n ih =>
    intro h
    show smn f n + f n = 0
    rw [ih (fun i hi => h i (by omega)), h n (by omega)]
/-- how many are in a state -/
abbrev sI (st : Nat → Int32) (k : Int32) : Nat → Int32 := fun i => if st i = k then 1 else 0
abbrev sN (st : Nat → Int32) (k : Int32) : Nat → Nat := fun i => if st i = k then 1 else 0
theorem sI_n (st : Nat → Int32) (k : Int32) (i : Nat) : sI st k i = nI (sN st k i) := by
  show (if st i = k then (1 : Int32) else 0) = nI (if st i = k then 1 else 0)
  split <;> rfl
theorem ca_sm (st : Nat → Int32) (k : Int32) : ∀ (m t : Nat), ca st k m t (sm (sI st k) t) = sm (sI st k) (t + m) := by
  intro m
  induction m with
  | zero => intro t; rfl
  | succ m ih =>
    intro t
    have e : (if st t = k then sm (sI st k) t + 1 else sm (sI st k) t) = sm (sI st k) (t + 1) := by
      show _ = sm (sI st k) t + (if st t = k then 1 else 0)
      by_cases h : st t = k
      · rw [if_pos h, if_pos h]
      · rw [if_neg h, if_neg h, a0]
    simp only [ca]
    rw [e, ih (t + 1), show t + 1 + m = t + (m + 1) by omega]
theorem ca_e (st : Nat → Int32) (k : Int32) (n : Nat) : ca st k n 0 0 = sm (sI st k) n := by
  have := ca_sm st k n 0
  rw [Nat.zero_add] at this
  exact this
theorem ca_n (st : Nat → Int32) (k : Int32) (n : Nat) : ca st k n 0 0 = nI (smn (sN st k) n) := by
  rw [ca_e]
  exact sm_nI n (fun i _ => sI_n st k i)
abbrev lI (st sn : Nat → Int32) : Nat → Int32 := fun i => if st i = 2 then sn i else 0
theorem la_sm (st sn : Nat → Int32) : ∀ (m t : Nat), la st sn m t (sm (lI st sn) t) = sm (lI st sn) (t + m) := by
  intro m
  induction m with
  | zero => intro t; rfl
  | succ m ih =>
    intro t
    have e : (if st t = 2 then sm (lI st sn) t + sn t else sm (lI st sn) t) = sm (lI st sn) (t + 1) := by
      show _ = sm (lI st sn) t + (if st t = 2 then sn t else 0)
      by_cases h : st t = 2
      · rw [if_pos h, if_pos h]
      · rw [if_neg h, if_neg h, a0]
    simp only [la]
    rw [e, ih (t + 1), show t + 1 + m = t + (m + 1) by omega]
theorem la_e (st sn : Nat → Int32) (n : Nat) : la st sn n 0 0 = sm (lI st sn) n := by
  have := la_sm st sn n 0
  rw [Nat.zero_add] at this
  exact this
theorem sa_sm (al : Nat → Int32) : ∀ (m t : Nat), sa al m t (sm al t) = sm al (t + m) := by
  intro m
  induction m with
  | zero => intro t; rfl
  | succ m ih =>
    intro t
    simp only [sa]
    show sa al m (t + 1) (sm al (t + 1)) = _
    rw [ih (t + 1), show t + 1 + m = t + (m + 1) by omega]
theorem sa_e (al : Nat → Int32) (n : Nat) : sa al n 0 0 = sm al n := by
  have := sa_sm al n 0
  rw [Nat.zero_add] at this
  exact this
theorem fa_first (st : Nat → Int32) {t : Nat} (h0 : st t = 0) : ∀ (m s : Nat), s ≤ t → t < s + m → (∀ i, s ≤ i → i < t → st i ≠ 0) → fa st m s = nI t := by
  intro m
  induction m with
  | zero => intro s h1 h2; omega
  | succ m ih =>
    intro s h1 h2 hn
    simp only [fa]
    by_cases e : s = t
    · subst e
      rw [if_pos h0]
    · rw [if_neg (hn s (Nat.le_refl s) (by omega))]
      exact ih (s + 1) (by omega) (by omega) (fun i q1 q2 => hn i (by omega) q2)
/-- the snores in transit are few -/
theorem la_bd {N : Nat} {b : S2} (hN : N ≤ 24) (k : ∀ t, t < N → ∃ k, k ≤ 9 ∧ b 3 t = nI k) : ∃ s, s ≤ 216 ∧ la (b 5) (b 3) N 0 0 = nI s := by
  have : ∃ p : Nat → Nat, ∀ t, t < N → b 3 t = nI (p t) ∧ p t ≤ 9 := by
    refine ⟨fun t => (b 3 t).toNatClampNeg, fun t ht => ?_⟩
    obtain ⟨k, k1, k2⟩ := k t ht
    show b 3 t = nI (b 3 t).toNatClampNeg ∧ (b 3 t).toNatClampNeg ≤ 9
    rw [k2, nI_clamp (show k < 2 ^ 31 by omega)]
    exact ⟨rfl, k1⟩
  obtain ⟨p, hp⟩ := this
  refine ⟨smn (fun t => if b 5 t = 2 then p t else 0) N, ?_, ?_⟩
  · have := smn_le (p := fun t => if b 5 t = 2 then p t else 0) (c := 9) N (fun i hi => by
      show (if b 5 i = 2 then p i else 0) ≤ 9
      split
      · exact (hp i hi).2
      · omega)
    omega
  · rw [la_e]
    refine sm_nI N (fun i hi => ?_)
    show (if b 5 i = 2 then b 3 i else 0) = nI (if b 5 i = 2 then p i else 0)
    by_cases h : b 5 i = 2
    · rw [if_pos h, if_pos h, (hp i hi).1]
    · rw [if_neg h, if_neg h]
      rfl
