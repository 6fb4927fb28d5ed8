/-! PURE 70: the law answers 1 to every script -/
theorem L98_t {N G : Nat} {b b2 u : S2} (v : Jv N G b) (K : (Nat → Int32) → Option Int32) (sc : SC) (n15 n19 : Nat) (l3 l5 l10 : Int32) (f16 f20 f23 : Nat → Int32) (hK : ∀ f', (∀ t, t < N → f' t = if b 5 t = 1 then 1 else 0) → K f' = some 1) : L_law_L98 K sc n15 n19 N l3 l5 l10 b b2 u f16 f20 f23 5 0 (fun _ => 0) = some 1 := by
  have hG := v.2.1
  obtain ⟨f', e, h⟩ := L98_s (b2 := b2) (u := u) v K sc n15 n19 l3 l5 l10 f16 f20 f23 G 5 0 (fun _ => 0) (by omega) (by omega) (fun t _ => ⟨fun ⟨i, i1, _⟩ => absurd i1 (by omega), fun _ => rfl⟩)
  exact e.trans (hK f' h)
theorem L216_t {N G : Nat} {b b2 u : S2} (r : SR N G u b) (v : Jv N G b) (K : Int32 → (Nat → Int32) → (Nat → Int32) → (Nat → Int32) → Option Int32) (sc : SC) (l3 : Int32) {f27 : Nat → Int32} (h27 : ∀ t, t < N → f27 t = if b 5 t = 1 then 1 else 0) (hK : ∀ f16 f20 f23, (∀ s, s < N → f16 s = b 5 s ∧ f20 s = b 4 s) → (∀ k, k < 5 → f23 k = sm (sI (b 5) (nI k)) N) → K (sm (lI (b 5) (b 3)) N) f16 f20 f23 = some 1) : L_law_L216 K sc N N N l3 (nI N) b b2 u f27 25 0 0 0 (fun _ => 0) (fun _ => 0) (fun _ => 0) = some 1 := by
  have hN := v.1.1.1
  obtain ⟨f16, f20, f23, e, h1, h2⟩ := L216_s (b2 := b2) r v K sc l3 h27 N 25 0 (fun _ => 0) (fun _ => 0) (fun _ => 0) (by omega) (by omega) (fun s hs => absurd hs (by omega)) (fun _ _ => rfl)
  exact e.trans (hK f16 f20 f23 h1 h2)
theorem no_wait {N : Nat} (hN : N ≤ 24) (st : Nat → Int32) : (if 0 ≤ fa st N 0 then (0 : Int32) else 1) = if sm (sI st 0) N = 0 then 1 else 0 := by
  rcases fa_cases st N 0 with ⟨f1, f2⟩ | ⟨i, f1, f2, f3, f4⟩
  · have : sm (sI st 0) N = 0 := sm_0 N (fun i hi => by
      show (if st i = 0 then (1 : Int32) else 0) = 0
      rw [if_neg (f2 i (by omega) (by omega))])
    rw [f1, this, if_neg (by decide), if_pos rfl]
  · have : ¬ sm (sI st 0) N = 0 := fun h => none_before (by omega) h i (by omega) f3
    rw [f4, if_pos (ge0 (by omega)), if_neg this]
theorem exp_le {N G : Nat} {b : S2} (v : Jv N G b) : ¬ sm (sI (b 5) 4) N < b 0 1 := by
  have hN := v.1.1.1
  obtain ⟨e, e1, e2⟩ := v.2.2.2.2.2.2
  have h1 := smn_le (p := sN (b 5) 4) (c := 1) N (fun i _ => by show (if b 5 i = 4 then 1 else 0) ≤ 1; split <;> omega)
  rw [e1, sm_nI N (fun i _ => sI_n (b 5) 4 i)]
  exact le_nlt (nI_le e2 (by omega))
theorem L22_s {sc : SC} {b2 : S2} : ∀ (m n i N G : Nat) (u b : S2), SR N G u b → Jv N G b → i + m = 40 → m < n → L_law_L22 sc b2 n (nI i) b u = some 1 := by
  intro m
  induction m with
  | zero =>
    intro n i N G u b r v hi hn
    obtain ⟨n, rfl⟩ := pos_fuel hn
    rw [L_law_L22, if_pos (show (40 : Int32) ≤ nI i from nI_le (a := 40) (by omega) (by omega)), same_s r v, bd1_some]
  | succ m ih =>
    intro n i N0 G0 u0 b0 r0 v0 hi hn
    obtain ⟨n, rfl⟩ := pos_fuel hn
    obtain ⟨x, hx⟩ := cell_m sc (i := i) (by omega)
    obtain ⟨N, G, b, u, e1, r, v⟩ := act_s (b2 := b2) r0 v0 ((x >>> (((nI i / 16) * 3) &&& 31)) + (653 * nI i))
    have hN := v.1.1.1
    have hG := v.2.1
    have t1 : X1_travellers b b2 = some (nI N) := by
      unfold X1_travellers
      rw [v.1.1.2.2.1]
    have ln : len 24 (nI N) = some N := by
      unfold len
      rw [nI_clamp (by omega), if_neg (not_or.mpr ⟨nI_pos (by omega), by omega⟩)]
    rw [L_law_L22, if_neg (show ¬ (40 : Int32) ≤ nI i from nI_ge (b := 40) (by omega) (by omega)), hx, bd1_some, e1, bd3_some, if_neg (by decide), t1, bd1_some, ln, bd1_some, bd1_some, bd1_some]
    refine L98_t v _ sc N N (nI i) (nI N) 0 _ _ _ (fun f27 h27 => ?_)
    refine L216_t r v _ sc (nI i) h27 (fun f16 f20 f23 h16 h23 => ?_)
    have c0 : ldA f23 5 0 = some (sm (sI (b 5) 0) N) := (ldA_n (n := 5) (k := 0) (by omega) (by omega)).trans (congrArg some (h23 0 (by omega)))
    have c3 : ldA f23 5 3 = some (sm (sI (b 5) 3) N) := (ldA_n (n := 5) (k := 3) (by omega) (by omega)).trans (congrArg some (h23 3 (by omega)))
    have c4 : ldA f23 5 4 = some (sm (sI (b 5) 4) N) := (ldA_n (n := 5) (k := 4) (by omega) (by omega)).trans (congrArg some (h23 4 (by omega)))
    have x1 : X1_expired b b2 = some (b 0 1) := rfl
    have x2 : X1_paid b b2 = some (b 0 2) := rfl
    have x3 : X1_minute b b2 = some (b 0 0) := rfl
    rw [c0, bd1_some, wait_1 v.1.1, bd1_some, ca_e, if_pos rfl, c3, bd1_some, asleep_1 v.1.1, bd1_some, ca_e, if_pos rfl, c4, bd1_some, sent_1 v.1.1, bd1_some, ca_e, if_pos rfl, x1, bd1_some, bd1_some, if_neg (exp_le v), noise_1 v.1.1, bd1_some, la_e, if_pos rfl, next_1 v.1.1, bd1_some]
    refine jo1_e (P := fun o => o = some 1) (S := fun j => j = if sm (sI (b 5) 0) N = 0 then (1 : Int32) else 0) (fun j hj => ?_) (fun K1 hK1 => ?_)
    · show _ = some 1
      rw [bd1_some]
      refine jo1_e (P := fun o => o = some 1) (S := fun j => j = if sm (sI (b 5) 0) N = 0 then (1 : Int32) else 0) (fun j' hj' => ?_) (fun K2 hK2 => ?_)
      · show _ = some 1
        have ep : X1_pass b b2 1 = some (.inr (ca (mn N G b 5) 3 N 0 0 - ca (b 5) 3 N 0 0, mn N G b)) := pass_e (k := 1) v.1 (by omega) (by omega)
        obtain ⟨u2, e2, r2⟩ := pass_s r v.1 v.2.2.1 (Lw_of v.2.2.2.1)
        obtain ⟨m0, m1, m2, ⟨d1, d2, d3⟩, mT, -, -⟩ := mn_ms v
        have vj := mn_jv v
        rw [if_pos (hj.trans hj'.symm), bd1_some, x2, bd1_some, x3, bd1_some, ep, bz2_r, e2, bd1_some]
        generalize hc : mn N G b = c at *
        have k1 : ca (c 5) 3 N 0 0 - ca (b 5) 3 N 0 0 = sm (qF b c) N := by
          rw [ca_e, ca_e, sm_add (f := sI (b 5) 3) (g := qF b c) (h := sI (c 5) 3) N (fun t ht => qF_e (Tr_of v.2.2.2.1 ht (mT t ht))), Int32.add_comm, Int32.add_sub_cancel]
        have k2 : c 0 1 = b 0 1 + sm (qE b c) N := by
          rw [m1, sm_cg (f := eI b) (g := qE b c) N (fun t ht => qE_e (Tr_of v.2.2.2.1 ht (mT t ht)))]
        have k3 : c 0 2 = b 0 2 + sm (qH b c) N := by
          rw [m2, sm_cg (f := pI b c) (g := qH b c) N (fun t ht => qH_e t)]
        have y1 : X1_expired c b2 = some (c 0 1) := rfl
        have y2 : X1_paid c b2 = some (c 0 2) := rfl
        have y3 : X1_minute c b2 = some (c 0 0) := rfl
        refine (L575_s v.2.2.2.1 mT vj.1.1 d1 d2 _ sc (nI i) _ _ _ _ h16 N 25 0 (by omega) (by omega)).trans ?_
        rw [if_pos k1, y1, bd1_some, if_pos k2, y2, bd1_some, if_pos k3, y3, bd1_some, if_pos m0, nI_1]
        exact ih n (i + 1) N G u2 c r2 vj (by omega) (by omega)
      · show _ = some 1
        by_cases z : sm (sI (b 5) 0) N = 0
        · rw [if_pos z]
          exact hK2 _ (by rw [if_pos z])
        · rw [if_neg z]
          exact hK2 _ (by rw [if_neg z])
    · show _ = some 1
      have nw := no_wait hN (b 5)
      by_cases z : 0 ≤ fa (b 5) N 0
      · rw [if_pos z] at nw ⊢
        exact hK1 _ nw
      · rw [if_neg z] at nw ⊢
        exact hK1 _ nw
theorem law_s (sc : SC) : ∃ b u, L_build sc zS zS = some (b, u) ∧ L_law_F sc b zS u = some 1 := by
  obtain ⟨N, G, b, u, e, r, v⟩ := build_s sc
  exact ⟨b, u, e, L22_s 40 41 0 N G u b r v (by omega) (by omega)⟩
