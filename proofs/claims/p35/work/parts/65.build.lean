/-! PURE 65: build -/
theorem cell_n (sc : SC) {k : Nat} (hk : k < 2 ^ 31) : ∃ x, L_cell sc (nI k) = some x := by
  unfold L_cell
  by_cases c : nI sc.2.1 ≤ nI k
  · rw [if_pos c]
    exact ⟨_, rfl⟩
  · have h : k < sc.2.1 := by
      rcases Nat.lt_or_ge k sc.2.1 with h | h
      · exact h
      · exact absurd (nI_le h hk) c
    unfold ldA
    rw [if_neg c, nI_clamp hk, if_neg (not_or.mpr ⟨nI_pos hk, by omega⟩)]
    exact ⟨_, rfl⟩
theorem mod16 : ∀ i : Fin 64, nI i.val - nI i.val / 16 * 16 = nI (i.val % 16) := by decide +kernel
theorem cell_m (sc : SC) {i : Nat} (hi : i < 64) : ∃ x, L_cell sc (nI i - nI i / 16 * 16) = some x := by
  rw [mod16 ⟨i, hi⟩]
  exact cell_n sc (k := i % 16) (by omega)
theorem L89_s {sc : SC} {b2 : S2} {q : Nat} (hq : q ≤ 60) : ∀ (m n i N G : Nat) (u b : S2), SR N G u b → Jv N G b → i + m = q → m < n → ∃ N' G' b' u', L_build_L89 sc (nI q) b2 n (nI i) b u = some (b', u') ∧ SR N' G' u' b' ∧ Jv N' G' b' := by
  intro m
  induction m with
  | zero =>
    intro n i N G u b r v hi hn
    obtain ⟨n, rfl⟩ := pos_fuel hn
    rw [L_build_L89, if_pos (nI_le (by omega) (by omega))]
    exact ⟨N, G, b, u, rfl, r, v⟩
  | succ m ih =>
    intro n i N G u b r v hi hn
    obtain ⟨n, rfl⟩ := pos_fuel hn
    obtain ⟨x, hx⟩ := cell_m sc (i := i) (by omega)
    obtain ⟨N1, G1, b1, u1, e1, r1, v1⟩ := act_s (b2 := b2) r v ((x >>> (((nI i / 16) * 3) &&& 31)) + (653 * nI i))
    rw [L_build_L89, if_neg (nI_ge (by omega) (by omega)), hx, bd1_some, e1, bd3_some, if_neg (by decide), nI_1]
    exact ih n (i + 1) N1 G1 u1 b1 r1 v1 (by omega) (by omega)
theorem L21_s {sc : SC} {b2 : S2} {k : Nat} (hk : k < 4) : ∀ (m n j : Nat) (u b : S2), SR 0 j u b → Jv 0 j b → j + m = k → m < n → ∃ N' G' b' u', L_build_L21 sc (nI k) b2 n (nI j) b u = some (b', u') ∧ SR N' G' u' b' ∧ Jv N' G' b' := by
  intro m
  induction m with
  | zero =>
    intro n j u b r v hj hn
    obtain ⟨n, rfl⟩ := pos_fuel hn
    obtain ⟨x, hx⟩ := cell_n sc (k := 0) (by omega)
    have hx : L_cell sc 0 = some x := hx
    obtain ⟨y, hy, ey⟩ := below_n x (d := 44) (by omega) (by omega)
    have ey : L_below x 44 = some (nI y) := ey
    have e8 : 8 + nI y = nI (y + 8) := by
      rw [Int32.add_comm]
      exact nI_add y 8
    rw [L_build_L21, if_pos (nI_le (by omega) (by omega)), hx, bd1_some, ey, bd1_some, e8]
    exact L89_s (by omega) (y + 8) 52 0 0 j u b r v (by omega) (by omega)
  | succ m ih =>
    intro n j u b r v hj hn
    obtain ⟨n, rfl⟩ := pos_fuel hn
    obtain ⟨u1, b1, e1, e2, r1, v1⟩ := addG_e (b2 := b2) r v (by omega)
    rw [L_build_L21, if_neg (nI_ge (by omega) (by omega)), stF_i 0 0 rfl (by decide), bd1_some, stF_i 1 1 rfl (by decide), bd1_some, stF_i 2 2 rfl (by decide), bd1_some, e1, bd1_some, e2, bz2_r, if_pos rfl, nI_1]
    exact ih n (j + 1) u1 b1 r1 v1 (by omega) (by omega)
theorem SR_z : SR 0 0 zS zS := ⟨⟨rfl, rfl, rfl, rfl, rfl⟩, fun g h => by omega, fun t h => by omega⟩
theorem Jv_z : Jv 0 0 zS := ⟨⟨⟨by omega, by omega, rfl, rfl⟩, ⟨fun g h => by omega, fun g g' t h => by omega⟩, fun t h => by omega⟩, by omega, fun t h => by omega, fun t h => by omega, fun t h => by omega, fun t h => by omega, ⟨0, rfl, Nat.zero_le _⟩⟩
theorem build_s (sc : SC) : ∃ N G b u, L_build sc zS zS = some (b, u) ∧ SR N G u b ∧ Jv N G b := by
  obtain ⟨x, hx⟩ := cell_n sc (k := 1) (by omega)
  have hx : L_cell sc 1 = some x := hx
  obtain ⟨y, hy, ey⟩ := below_n x (d := 4) (by omega) (by omega)
  have ey : L_below x 4 = some (nI y) := ey
  unfold L_build L_build_F
  rw [hx, bd1_some, ey, bd1_some]
  exact L21_s hy y 5 0 zS zS SR_z Jv_z (by omega) (by omega)
