/-! PURE 66: the law's own object and the class answer the same -/
theorem wait_1 {N G : Nat} {b b2 : S2} (h : Hd N G b) : X1_waiting b b2 = some (ca (b 5) 0 N 0 0) := by
  unfold X1_waiting
  rw [countIn_e h, bd1_some]
theorem asleep_1 {N G : Nat} {b b2 : S2} (h : Hd N G b) : X1_asleep b b2 = some (ca (b 5) 3 N 0 0) := by
  unfold X1_asleep
  rw [countIn_e h, bd1_some]
theorem sent_1 {N G : Nat} {b b2 : S2} (h : Hd N G b) : X1_sentBack b b2 = some (ca (b 5) 4 N 0 0) := by
  unfold X1_sentBack
  rw [countIn_e h, bd1_some]
theorem noise_1 {N G : Nat} {b b2 : S2} (h : Hd N G b) : X1_noise b b2 = some (la (b 5) (b 3) N 0 0) := by
  unfold X1_noise
  rw [snores_e h, bd1_some]
theorem next_1 {N G : Nat} {b b2 : S2} (h : Hd N G b) : X1_nextInLine b b2 = some (fa (b 5) N 0) := by
  unfold X1_nextInLine
  rw [first_e h, bd1_some]
theorem would_1 {N G g t : Nat} {b b2 : S2} (v : Jv N G b) (hg : g < G) (ht : t < N) : X1_wouldFind b b2 (nI g) (nI t) = some (.inr (fnd b g t)) := by
  have hN := v.1.1.1
  have hG := v.1.1.2.1
  have e : bl (fnd b g t) = some (fnd b g t) := by
    unfold fnd
    split
    · rfl
    · split <;> rfl
  unfold X1_wouldFind
  rw [reqG_1 (isG_1 v.1.1.2.2.2 hG hg), bx0_r, reqT_1 (isT_1 v.1.1.2.2.1 hN ht), bx0_r, finds_e (by omega) (by omega), bd1_some, e, bd1_some]
theorem L341_s {N G g : Nat} {u b b2 : S2} (r : SR N G u b) (v : Jv N G b) {K : Option Int32} {l3 l4 : Int32} (hg : g < G) : ∀ (m n t : Nat), t + m = N → m < n → X2_isSame_L341 K l3 l4 (nI g) b b2 u n (nI t) = K := by
  have hN := v.1.1.1
  have hT := SR_T r hN
  have hG := v.2.1
  intro m
  induction m with
  | zero =>
    intro n t ht hn
    obtain ⟨n, rfl⟩ := pos_fuel hn
    rw [X2_isSame_L341, hT, if_pos (nI_le (by omega) (by omega))]
  | succ m ih =>
    intro n t ht hn
    obtain ⟨n, rfl⟩ := pos_fuel hn
    rw [X2_isSame_L341, hT, if_neg (nI_ge (by omega) (by omega)), would_1 v hg (by omega), bz1_r, inT_n hT (by omega) hN, bd1_some, nI_clamp (show g < 2 ^ 31 by omega), nI_clamp (show t < 2 ^ 31 by omega), finds_s r hN (by omega) v.2.2.1 hg (by omega) (v.1.2.1.1 g hg).1, bd1_some, if_pos rfl, nI_1]
    exact ih n (t + 1) (by omega) (by omega)
def bv (al : Nat → Int32) (l3 : Int32) : Int32 := if l3 < 0 then -1 else al l3.toNatClampNeg
theorem bv_n (al : Nat → Int32) {i : Nat} (h : i < 2 ^ 31) : bv al (nI i) = al i := by
  unfold bv
  rw [if_neg (nI_pos h), nI_clamp h]
theorem nn_sm {x : UInt64} (h : (nn x).isSome = true) : nn x = some x := by
  unfold nn at h ⊢
  split
  · rfl
  · rename_i q
    rw [if_neg q] at h
    cases h
theorem cmp_all : ∀ s : Fin 37, ∀ g : Fin 5, Op.cmpValue (FP.dcmp (FP.ddiv (FP.i2d (nI s.val)) (FP.i2d (nI g.val))) (FP.ddiv (FP.i2d (nI s.val)) (FP.i2d (nI g.val)))) CmpOp.l = 0 ∨ g.val = 0 := by decide +kernel
theorem al_sum {N G : Nat} {b : S2} (v : Jv N G b) : ∃ s, s < 37 ∧ sm (b 8) G = nI s := by
  have hG := v.2.1
  refine ⟨smn (fun g => (b 8 g).toNatClampNeg) G, ?_, sm_nI G (fun g hg => ?_)⟩
  · have := smn_le (p := fun g => (b 8 g).toNatClampNeg) (c := 9) G (fun g hg => by
      show (b 8 g).toNatClampNeg ≤ 9
      obtain ⟨a, a1, a2⟩ := (v.1.2.1.1 g hg).1
      rw [a2, nI_clamp (show a < 2 ^ 31 by omega)]
      exact a1)
    omega
  · show b 8 g = nI (b 8 g).toNatClampNeg
    obtain ⟨a, a1, a2⟩ := (v.1.2.1.1 g hg).1
    rw [a2, nI_clamp (show a < 2 ^ 31 by omega)]
theorem L247_s {N G : Nat} {u b b2 : S2} (r : SR N G u b) (v : Jv N G b) : ∀ (m n g : Nat) (l3 : Int32), g + m = G → m < n → ((l3 = -1 ∧ g = 0) ∨ ∃ i, i < g ∧ l3 = nI i) → mal (b 8) G 0 (-1) (-1) = mal (b 8) m g l3 (bv (b 8) l3) → X2_isSame_L247 b b2 u n l3 (sm (b 8) g) (nI g) = some 1 := by
  have hN := v.1.1.1
  have hG := v.2.1
  have h4 := v.1.1.2.2.2
  have hGu := SR_G r (by omega)
  intro m
  induction m with
  | zero =>
    intro n g l3 hg hn hl hm
    obtain ⟨n, rfl⟩ := pos_fuel hn
    have e : g = G := by omega
    subst e
    have hm : mal (b 8) g 0 (-1) (-1) = l3 := hm
    rw [X2_isSame_L247, hGu, if_pos (nI_le (by omega) (by omega)), mostAlert_e v.1.1, bd1_some, if_pos hm]
    by_cases g0 : g = 0
    · subst g0
      have e : X1_meanAlertness b b2 = some FP.dconst0 := by
        unfold X1_meanAlertness
        rw [h4, if_pos (show nI 0 = 0 from rfl)]
      rw [e, bd1_some]
      dsimp only [jo1]
      rw [if_pos (show nI 0 = 0 from rfl), if_pos (by decide +kernel)]
    · obtain ⟨s, s1, s2⟩ := al_sum v
      have z : ¬ nI g = 0 := nI_ne0 (by omega) (by omega)
      have q1 : nn (FP.ddiv (FP.i2d (nI s)) (FP.i2d (nI g))) = some (FP.ddiv (FP.i2d (nI s)) (FP.i2d (nI g))) := nn_sm ((nn_all ⟨s, s1⟩ ⟨g, by omega⟩).resolve_right g0)
      have q2 : Op.cmpValue (FP.dcmp (FP.ddiv (FP.i2d (nI s)) (FP.i2d (nI g))) (FP.ddiv (FP.i2d (nI s)) (FP.i2d (nI g)))) CmpOp.l = 0 := (cmp_all ⟨s, s1⟩ ⟨g, by omega⟩).resolve_right g0
      have e : X1_meanAlertness b b2 = some (FP.ddiv (FP.i2d (nI s)) (FP.i2d (nI g))) := by
        unfold X1_meanAlertness
        have := mean_L (b2 := b2) h4 (by omega) g 200 0 0 (by omega) (by omega)
        rw [sa_e, s2, q1, bd1_some] at this
        rw [h4, if_neg z]
        exact this
      rw [e, bd1_some]
      dsimp only [jo1]
      rw [if_neg z, s2, q1, bd1_some, if_pos q2]
  | succ m ih =>
    intro n g l3 hg hn hl hm
    obtain ⟨n, rfl⟩ := pos_fuel hn
    have hgG : g < G := by omega
    obtain ⟨p8, p9, p10⟩ := r.2.1 g hgG
    have eG := isG_1 h4 (by omega) hgG
    rw [X2_isSame_L247, hGu, if_neg (nI_ge (by omega) (by omega)), inG_n hGu hgG (by omega), bd1_some, nI_clamp (by omega)]
    refine jo1_e (P := fun o => o = some 1) (S := fun j => (∃ i, i < g + 1 ∧ j = nI i) ∧ mal (b 8) G 0 (-1) (-1) = mal (b 8) m (g + 1) j (bv (b 8) j)) (fun j hj => ?_) (fun K hK => ?_)
    · show _ = some 1
      rw [ldG_0 hGu hgG, bd1_some, alertnessOf_1 (by omega) eG, bz1_r, bd1_some, p8, if_pos rfl, searches_1 (by omega) eG, bz1_r, ldG_1 hGu hgG, bd1_some, p9, if_pos rfl, minutesToGo_1 (by omega) eG, bz1_r, ldG_2 hGu hgG, bd1_some, p10, if_pos rfl, nI_1]
      exact (L341_s r v hgG N 25 0 (by omega) (by omega)).trans (ih n (g + 1) j (by omega) (by omega) (Or.inr hj.1) hj.2)
    · show _ = some 1
      simp only [mal] at hm
      rcases hl with ⟨rfl, rfl⟩ | ⟨i, hi, rfl⟩
      · obtain ⟨a, a1, a2⟩ := (v.1.2.1.1 0 hgG).1
        have z : ¬ b 8 0 ≤ -1 := by
          rw [a2, Int32.le_iff_toInt_le, nI_toInt (by omega), show (-1 : Int32).toInt = -1 by decide]
          omega
        have e1 : bv (b 8) (-1) = -1 := rfl
        rw [e1, if_neg z] at hm
        rw [if_pos (by decide)]
        exact hK (nI 0) ⟨⟨0, by omega, rfl⟩, hm.trans (by rw [bv_n _ (by omega)])⟩
      · obtain ⟨o8, -, -⟩ := r.2.1 i (by omega)
        rw [bv_n _ (by omega)] at hm
        rw [if_neg (nI_pos (by omega)), ldG_0 hGu hgG, bd1_some, inG_n hGu (show i < G by omega) (by omega), bd1_some, nI_clamp (by omega), ldG_0 hGu (show i < G by omega), bd1_some, p8, o8]
        by_cases c : b 8 g ≤ b 8 i
        · rw [if_pos c] at hm ⊢
          exact hK (nI i) ⟨⟨i, by omega, rfl⟩, hm.trans (by rw [bv_n _ (by omega)])⟩
        · rw [if_neg c] at hm ⊢
          exact hK (nI g) ⟨⟨g, by omega, rfl⟩, hm.trans (by rw [bv_n _ (by omega)])⟩
theorem L121_s {N G : Nat} {u b b2 : S2} (r : SR N G u b) (v : Jv N G b) : ∀ (m n t : Nat), t + m = N → m < n → X2_isSame_L121 b b2 u n (sm (sI (b 5) 0) t) (nI t) = some 1 := by
  have hN := v.1.1.1
  have hG := v.2.1
  have hT := SR_T r hN
  intro m
  induction m with
  | zero =>
    intro n t ht hn
    obtain ⟨n, rfl⟩ := pos_fuel hn
    rw [X2_isSame_L121, hT, if_pos (nI_le (by omega) (by omega))]
    exact L247_s r v G 5 0 (-1) (by omega) (by omega) (Or.inl ⟨rfl, rfl⟩) rfl
  | succ m ih =>
    intro n t ht hn
    obtain ⟨n, rfl⟩ := pos_fuel hn
    have htN : t < N := by omega
    obtain ⟨q1, q2, q3, q4, q5, q6⟩ := r.2.2 t htN
    have e1 := isT_1 v.1.1.2.2.1 hN htN
    rw [X2_isSame_L121, hT, if_neg (nI_ge (by omega) (by omega)), inT_n hT htN hN, bd1_some, stateOf_1 (by omega) e1, bz1_r, nI_clamp (by omega), ldT_4 hT htN, bd1_some, q5, if_pos rfl, hiddenOf_1 (by omega) e1, bz1_r, hidden_s r hN v.2.2.1 htN, bd1_some, if_pos rfl, lullabyOf_1 (by omega) e1, bz1_r, ldT_3 hT htN, bd1_some, q4, if_pos rfl, placeInLine_1 v.1.1 htN e1, bz1_r, bd1_some]
    refine jo1_e (P := fun o => o = some 1) (S := fun j => j = plc b t) (fun j hj => ?_) (fun K hK => ?_)
    · show _ = some 1
      have st : sm (sI (b 5) 0) (t + 1) = sm (sI (b 5) 0) t + (if b 5 t = 0 then 1 else 0) := rfl
      have sti : stime N b t = (2 + b 2 t) + (la (b 5) (b 3) N 0 0 / 4) := rfl
      have := ih n (t + 1) (by omega) (by omega)
      rw [st] at this
      rw [if_pos hj.symm, searchTime_1 v.1.1 htN e1, bz1_r, ldT_1 hT htN, bd1_some, q2, noise_s r hN, bd1_some, if_pos sti, bd1_some, nI_1]
      by_cases h0 : b 5 t = 0
      · rw [if_pos h0] at this ⊢
        exact this
      · rw [if_neg h0] at this ⊢
        exact this
    · show _ = some 1
      by_cases h0 : b 5 t = 0
      · rw [if_pos h0]
        refine hK _ ?_
        unfold plc
        rw [if_pos h0, ca_e]
      · rw [if_neg h0]
        refine hK _ ?_
        unfold plc
        rw [if_neg h0]
theorem same_s {N G : Nat} {u b b2 : S2} (r : SR N G u b) (v : Jv N G b) : X2_isSame b b2 u = some 1 := by
  have hN := v.1.1.1
  have hG := v.2.1
  have hT := SR_T r hN
  have hGu := SR_G r (by omega)
  obtain ⟨⟨r0, r1, r2, r3, r4⟩, -, -⟩ := id r
  unfold X2_isSame X1_minute X1_travellers X1_expired X1_paid X1_guards
  rw [bd1_some, if_pos r0.symm, bd1_some, hT, if_pos v.1.1.2.2.1, wait_1 v.1.1, bd1_some, count_s r hN, bd1_some, if_pos rfl, asleep_1 v.1.1, bd1_some, count_s r hN, bd1_some, if_pos rfl, sent_1 v.1.1, bd1_some, count_s r hN, bd1_some, if_pos rfl, bd1_some, if_pos r1.symm, bd1_some, if_pos r2.symm, noise_1 v.1.1, bd1_some, noise_s r hN, bd1_some, if_pos rfl, next_1 v.1.1, bd1_some, next_s r hN, bd1_some, if_pos rfl, bd1_some, hGu, if_pos v.1.1.2.2.2]
  exact L121_s r v N 25 0 (by omega) (by omega)
