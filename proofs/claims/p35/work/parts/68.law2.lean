/-! PURE 68: the law's look at the travellers, before the minute -/
theorem div4 : ∀ s : Fin 217, nI s.val / 4 = nI (s.val / 4) := by decide +kernel
theorem st5 {N : Nat} {b : S2} (h : Ls N b) {t : Nat} (ht : t < N) : ∃ k, k < 5 ∧ b 5 t = nI k := by
  rcases (h t ht).2 with q | q | q | q | q
  · exact ⟨0, by omega, q⟩
  · exact ⟨1, by omega, q⟩
  · exact ⟨2, by omega, q⟩
  · exact ⟨3, by omega, q⟩
  · exact ⟨4, by omega, q⟩
theorem hid_n {a c : Nat} (ha : a ≤ 9) (hc : c ≤ 9) : ∃ k, k ≤ 9 ∧ hid (nI a) (nI c) = nI k := by
  have : ∀ a c : Fin 10, ∃ k : Fin 10, hid (nI a.val) (nI c.val) = nI k.val := by decide +kernel
  obtain ⟨k, hk⟩ := this ⟨a, by omega⟩ ⟨c, by omega⟩
  exact ⟨k.val, by omega, hk⟩
theorem hid_b {N : Nat} {b : S2} (h : Rg N b) {t : Nat} (ht : t < N) : ∃ k, k ≤ 9 ∧ hid (b 1 t) (b 2 t) = nI k := by
  obtain ⟨⟨a, a1, a2⟩, ⟨c, c1, c2⟩, -⟩ := h t ht
  rw [a2, c2]
  exact hid_n a1 c1
theorem stime_ge {N G : Nat} {b : S2} (v : Jv N G b) {t : Nat} (ht : t < N) : 2 + la (b 5) (b 3) N 0 0 / 4 ≤ stime N b t := by
  obtain ⟨s, s1, s2⟩ := la_bd v.1.1.1 (fun t ht => (v.2.2.1 t ht).2.2)
  obtain ⟨-, ⟨c, c1, c2⟩, -⟩ := v.2.2.1 t ht
  have d := div4 ⟨s, by omega⟩
  have d : nI s / 4 = nI (s / 4) := d
  have two : ∀ k, (2 : Int32) + nI k = nI (2 + k) := fun k => nI_add 2 k
  unfold stime
  rw [s2, d, c2, two, two, nI_add]
  exact nI_le (by omega) (by omega)
theorem none_before {st : Nat → Int32} {t : Nat} (ht : t < 2 ^ 31) (h : sm (sI st 0) t = 0) : ∀ i, i < t → st i ≠ 0 := by
  rw [sm_nI t (fun i _ => sI_n st 0 i)] at h
  have h1 := smn_le (p := sN st 0) (c := 1) t (fun i _ => by show (if st i = 0 then 1 else 0) ≤ 1; split <;> omega)
  have h2 : smn (sN st 0) t = 0 := nI_inj (by omega) (by omega) (h : nI _ = nI 0)
  intro i hi e
  have := smn_z t h2 i hi
  have : (if st i = 0 then 1 else 0) = 0 := this
  rw [if_pos e] at this
  omega
theorem L216_s {N G : Nat} {b b2 u : S2} (r : SR N G u b) (v : Jv N G b) (K : Int32 → (Nat → Int32) → (Nat → Int32) → (Nat → Int32) → Option Int32) (sc : SC) (l3 : Int32) {f27 : Nat → Int32} (h27 : ∀ t, t < N → f27 t = if b 5 t = 1 then 1 else 0) : ∀ (m n t : Nat) (f16 f20 f23 : Nat → Int32), t + m = N → m < n → (∀ s, s < t → f16 s = b 5 s ∧ f20 s = b 4 s) → (∀ k, k < 5 → f23 k = sm (sI (b 5) (nI k)) t) → ∃ f16' f20' f23', L_law_L216 K sc N N N l3 (nI N) b b2 u f27 n (sm (lI (b 5) (b 3)) t) (sm (sI (b 5) 0) t) (nI t) f16 f20 f23 = K (sm (lI (b 5) (b 3)) N) f16' f20' f23' ∧ (∀ s, s < N → f16' s = b 5 s ∧ f20' s = b 4 s) ∧ (∀ k, k < 5 → f23' k = sm (sI (b 5) (nI k)) N) := by
  have hN := v.1.1.1
  have hG := v.2.1
  have hT := SR_T r hN
  intro m
  induction m with
  | zero =>
    intro n t f16 f20 f23 ht hn hf hk
    obtain ⟨n, rfl⟩ := pos_fuel hn
    have e : t = N := by omega
    subst e
    rw [L_law_L216, if_pos (nI_le (by omega) (by omega))]
    exact ⟨f16, f20, f23, rfl, hf, hk⟩
  | succ m ih =>
    intro n t f16 f20 f23 ht hn hf hk
    obtain ⟨n, rfl⟩ := pos_fuel hn
    have htN : t < N := by omega
    have e1 := isT_1 v.1.1.2.2.1 hN htN
    obtain ⟨q1, q2, q3, q4, q5, q6⟩ := r.2.2 t htN
    obtain ⟨k, k1, k2⟩ := st5 v.2.2.2.1 htN
    obtain ⟨y, y1, y2⟩ := hid_b v.2.2.1 htN
    obtain ⟨⟨y4, z1, z2, z3⟩, -⟩ := v.2.2.2.1 t htN
    have hA : ldA f23 5 (b 5 t) = some (sm (sI (b 5) (nI k)) t) := by rw [k2, ldA_n k1 (by omega), hk k k1]
    have hS : ∀ x, stF f23 5 (b 5 t) x = some (upd f23 k x) := fun x => by rw [k2, stF_n k1 (by omega)]
    have sml : sm (lI (b 5) (b 3)) (t + 1) = sm (lI (b 5) (b 3)) t + (if b 5 t = 2 then b 3 t else 0) := rfl
    have smi : sm (sI (b 5) 0) (t + 1) = sm (sI (b 5) 0) t + (if b 5 t = 0 then 1 else 0) := rfl
    have E : L_law_L216 K sc N N N l3 (nI N) b b2 u f27 (n + 1) (sm (lI (b 5) (b 3)) t) (sm (sI (b 5) 0) t) (nI t) f16 f20 f23 = L_law_L216 K sc N N N l3 (nI N) b b2 u f27 n (sm (lI (b 5) (b 3)) (t + 1)) (sm (sI (b 5) 0) (t + 1)) (nI (t + 1)) (upd f16 t (b 5 t)) (upd f20 t (b 4 t)) (upd f23 k (sm (sI (b 5) (nI k)) t + 1)) := by
      generalize hR : L_law_L216 K sc N N N l3 (nI N) b b2 u f27 n (sm (lI (b 5) (b 3)) (t + 1)) (sm (sI (b 5) 0) (t + 1)) (nI (t + 1)) (upd f16 t (b 5 t)) (upd f20 t (b 4 t)) (upd f23 k (sm (sI (b 5) (nI k)) t + 1)) = R
      rw [L_law_L216, if_neg (nI_ge (by omega) (by omega)), stateOf_1 (by omega) e1, bz1_r, stF_n htN (by omega), bd1_some, lullabyOf_1 (by omega) e1, bz1_r, stF_n htN (by omega), bd1_some, ldA_n htN (by omega), upd_e rfl, bd1_some, if_neg (show ¬ b 5 t < 0 by rw [k2]; exact nI_pos (by omega)), bd1_some, if_pos (show b 5 t ≤ 4 by rw [k2]; exact nI_le (b := 4) (by omega) (by omega)), bd1_some, hA, bd1_some, hS, bd1_some, bd1_some]
      refine jo0_e (P := fun o => o = R) ?_ (fun K0 hK0 => ?_)
      · show _ = R
        rw [ldA_n htN (by omega), bd1_some, bd1_some]
        refine jo1_e (P := fun o => o = R) (S := fun j => f27 t = j) (fun j hj => ?_) (fun K1 hK1 => ?_)
        · show _ = R
          rw [if_pos hj, placeInLine_1 v.1.1 htN e1, bz1_r, bd1_some]
          refine jo1_e (P := fun o => o = R) (S := fun j => plc b t = j) (fun j hj => ?_) (fun K2 hK2 => ?_)
          · show _ = R
            rw [if_pos hj, bd1_some]
            refine jo0_e (P := fun o => o = R) ?_ (fun K3 hK3 => ?_)
            · show _ = R
              rw [hiddenOf_1 (by omega) e1, bz1_r, y2, if_neg (nI_pos (by omega)), bz1_r, if_neg (le9 y1), searchTime_1 v.1.1 htN e1, bz1_r, noise_1 v.1.1, bd1_some, if_pos (stime_ge v htN), bd1_some]
              refine jo1_e (P := fun o => o = R) (S := fun j => j = if b 5 t = 0 then (1 : Int32) else 0) (fun j hj => ?_) (fun K4 hK4 => ?_)
              · show _ = R
                rw [bd1_some, hj, ← hR, sml, smi, nI_1]
                by_cases h2 : b 5 t = 2
                · rw [if_pos h2, inT_n hT htN hN, bd1_some, nI_clamp (by omega), ldT_2 hT htN, bd1_some, q3]
                  rw [if_pos h2]
                · rw [if_neg h2]
                  rw [if_neg h2]
              · show _ = R
                by_cases h0 : b 5 t = 0
                · rw [if_pos h0]
                  exact hK4 _ (by rw [if_pos h0])
                · rw [if_neg h0]
                  exact hK4 _ (by rw [if_neg h0])
            · show _ = R
              by_cases h0 : b 5 t = 0
              · have l1 : ¬ b 4 t < 1 := by
                  rw [z2]
                  exact le_nlt (nI_le (a := 1) (z3 h0) (by omega))
                rw [if_pos h0, ldA_n htN (by omega), upd_e rfl, bd1_some, if_neg l1]
                exact hK3
              · rw [if_neg h0]
                exact hK3
          · show _ = R
            by_cases h0 : b 5 t = 0
            · rw [if_pos h0]
              refine hK2 _ ?_
              unfold plc
              rw [if_pos h0, ca_e]
            · rw [if_neg h0]
              refine hK2 _ ?_
              unfold plc
              rw [if_neg h0]
        · show _ = R
          have := h27 t htN
          by_cases h1 : b 5 t = 1
          · rw [if_pos h1] at this ⊢
            exact hK1 _ this
          · rw [if_neg h1] at this ⊢
            exact hK1 _ this
      · show _ = R
        by_cases h0 : b 5 t = 0
        · rw [if_pos h0]
          by_cases hl : sm (sI (b 5) 0) t = 0
          · rw [if_pos hl, next_1 v.1.1, bd1_some, if_pos (fa_first (b 5) h0 N 0 (by omega) (by omega) (fun i _ hi => none_before (by omega) hl i hi))]
            exact hK0
          · rw [if_neg hl]
            exact hK0
        · rw [if_neg h0]
          exact hK0
    rw [E]
    refine ih n (t + 1) _ _ _ (by omega) (by omega) (fun s hs => ?_) (fun j hj => ?_)
    · by_cases e : s = t
      · subst e
        exact ⟨upd_e rfl, upd_e rfl⟩
      · rw [upd_n e, upd_n e]
        exact hf s (by omega)
    · have st : sm (sI (b 5) (nI j)) (t + 1) = sm (sI (b 5) (nI j)) t + (if b 5 t = nI j then 1 else 0) := rfl
      rw [st]
      by_cases e : j = k
      · subst e
        rw [upd_e rfl, if_pos k2]
      · rw [upd_n e, if_neg (fun q => e (nI_inj (by omega) (by omega) (q.symm.trans k2))), a0]
        exact hk j hj
