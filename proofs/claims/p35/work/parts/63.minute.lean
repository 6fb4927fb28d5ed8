/-! PURE 63: what a minute does to each traveller, to the counts, to what is paid; what holds at all times -/
/-- lullabies and states -/
def Ls (N : Nat) (b : S2) : Prop := ∀ s, s < N → (∃ k, k ≤ 60 ∧ b 4 s = nI k ∧ (b 5 s = 0 → 1 ≤ k)) ∧ (b 5 s = 0 ∨ b 5 s = 1 ∨ b 5 s = 2 ∨ b 5 s = 3 ∨ b 5 s = 4)
/-- minutes to go -/
def GL (G : Nat) (b : S2) : Prop := ∀ i, i < G → (b 9 i = -1 ∧ b 10 i = 0) ∨ (b 9 i ≠ -1 ∧ ∃ k, 1 ≤ k ∧ k ≤ 100 ∧ b 10 i = nI k)
/-- who is searched has a guard -/
def CV (N G : Nat) (b : S2) : Prop := ∀ s, s < N → b 5 s = 1 → ∃ i, i < G ∧ b 9 i = nI s
/-- those who expired are among those sent back -/
def Ex (N : Nat) (b : S2) : Prop := ∃ e, b 0 1 = nI e ∧ e ≤ smn (sN (b 5) 4) N
def Jv (N G : Nat) (b : S2) : Prop := Iv N G b ∧ G ≤ 4 ∧ Rg N b ∧ Ls N b ∧ GL G b ∧ CV N G b ∧ Ex N b
theorem Lw_of {N : Nat} {b : S2} (h : Ls N b) : Lw N b := by
  intro t ht h0
  obtain ⟨⟨k, k1, k2, k3⟩, -⟩ := h t ht
  exact ⟨k, k3 h0, k1, k2⟩
/-! the travellers' own turns -/
def TA (b c : S2) (s : Nat) : Prop := (b 5 s = 0 → c 4 s = b 4 s - 1 ∧ (b 4 s = 1 → c 5 s = 4) ∧ (b 4 s ≠ 1 → c 5 s = 0)) ∧ (b 5 s ≠ 0 → c 4 s = b 4 s) ∧ (b 5 s = 1 → c 5 s = 1) ∧ (b 5 s = 2 → c 5 s = 2 ∨ c 5 s = 3) ∧ (b 5 s = 3 → c 5 s = 3) ∧ (b 5 s = 4 → c 5 s = 4)
abbrev eI (b : S2) : Nat → Int32 := fun s => if b 5 s = 0 ∧ b 4 s = 1 then 1 else 0
def PA (j : Nat) (b c : S2) : Prop := (∀ s, s < j → TA b c s) ∧ (∀ s, j ≤ s → c 4 s = b 4 s ∧ c 5 s = b 5 s ∧ c 6 s = b 6 s) ∧ c 0 1 = b 0 1 + sm (eI b) j
theorem cmb_o {b : S2} {t s : Nat} (h : s ≠ t) : cmb b t 4 s = b 4 s ∧ cmb b t 5 s = b 5 s ∧ cmb b t 6 s = b 6 s := by
  by_cases h2 : b 5 t = 2
  · rw [cmb_2 h2]
    split
    · simp (disch := omega) only [up2_n, and_self]
    · simp (disch := omega) only [up2_n, and_self]
  · by_cases h0 : b 5 t = 0
    · rw [cmb_0 h0]
      split
      · simp (disch := omega) only [up2_n, and_self]
      · simp (disch := omega) only [up2_n, and_self]
    · rw [cmb_n h0 h2]
      exact ⟨rfl, rfl, rfl⟩
theorem TA_cg {b c d : S2} {s : Nat} (h : TA b c s) (e4 : d 4 s = c 4 s) (e5 : d 5 s = c 5 s) : TA b d s := by
  unfold TA
  rw [e4, e5]
  exact h
theorem PA_st {N j : Nat} {b c : S2} (h : PA j b c) (lw : Lw N b) (hj : j < N) : PA (j + 1) b (cmb c j) := by
  obtain ⟨h1, h2, h3⟩ := h
  obtain ⟨q4, q5, q6⟩ := h2 j (Nat.le_refl j)
  have old : ∀ s, s < j → TA b (cmb c j) s := fun s hs => TA_cg (h1 s hs) (cmb_o (by omega)).1 (cmb_o (by omega)).2.1
  have new : ∀ s, j + 1 ≤ s → cmb c j 4 s = b 4 s ∧ cmb c j 5 s = b 5 s ∧ cmb c j 6 s = b 6 s := by
    intro s hs
    obtain ⟨a1, a2, a3⟩ := cmb_o (b := c) (t := j) (s := s) (by omega)
    obtain ⟨c1, c2, c3⟩ := h2 s (by omega)
    exact ⟨a1.trans c1, a2.trans c2, a3.trans c3⟩
  have me : TA b (cmb c j) j ∧ cmb c j 0 1 = b 0 1 + sm (eI b) (j + 1) := by
    have sm1 : sm (eI b) (j + 1) = sm (eI b) j + (if b 5 j = 0 ∧ b 4 j = 1 then 1 else 0) := rfl
    by_cases c2 : b 5 j = 2
    · have z0 : ¬ b 5 j = 0 := by rw [c2]; decide
      rw [sm1, if_neg (fun q => z0 q.1), a0, ← h3, cmb_2 (q5.trans c2)]
      unfold TA
      rw [c2]
      split
      · refine ⟨⟨fun q => absurd q (by decide), fun _ => by rw [up2_n (by omega), q4], fun q => absurd q (by decide), fun _ => Or.inl (by rw [up2_n (by omega), q5, c2]), fun q => absurd q (by decide), fun q => absurd q (by decide)⟩, by rw [up2_n (by omega)]⟩
      · refine ⟨⟨fun q => absurd q (by decide), fun _ => by simp (disch := omega) only [up2_n]; exact q4, fun q => absurd q (by decide), fun _ => Or.inr (by simp (disch := omega) only [up2_e, up2_n]), fun q => absurd q (by decide), fun q => absurd q (by decide)⟩, by simp (disch := omega) only [up2_n]⟩
    · by_cases c0 : b 5 j = 0
      · obtain ⟨k, k1, k2, k3⟩ := lw j hj c0
        rw [sm1, cmb_0 (q5.trans c0), q4, k3, nI_m k1]
        unfold TA
        rw [c0, k3]
        by_cases kk : k = 1
        · subst kk
          have n1 : (nI 1 : Int32) = 1 := rfl
          rw [if_neg (show ¬ 0 < nI (1 - 1) by decide), if_pos ⟨rfl, rfl⟩, h3, Int32.add_assoc]
          refine ⟨⟨fun _ => ⟨?_, fun _ => ?_, fun q => absurd n1 q⟩, fun q => absurd rfl q, fun q => absurd q (by decide), fun q => absurd q (by decide), fun q => absurd q (by decide), fun q => absurd q (by decide)⟩, ?_⟩
          · simp (disch := omega) only [up2_e, up2_n]
            decide
          · simp (disch := omega) only [up2_e, up2_n]
          · rw [up2_e (by omega)]
        · have n1 : nI k ≠ 1 := fun q => kk (nI_inj (by omega) (by omega) (q.trans rfl))
          rw [if_pos ((pos_nI (by omega)).mpr (by omega)), if_neg (fun q => n1 q.2), a0]
          refine ⟨⟨fun _ => ⟨?_, fun q => absurd q n1, fun _ => ?_⟩, fun q => absurd rfl q, fun q => absurd q (by decide), fun q => absurd q (by decide), fun q => absurd q (by decide), fun q => absurd q (by decide)⟩, ?_⟩
          · rw [up2_e (by omega), nI_m k1]
          · rw [up2_n (by omega), q5, c0]
          · rw [up2_n (by omega), h3]
      · rw [sm1, if_neg (fun q => c0 q.1), a0, ← h3, cmb_n (by rw [q5]; exact c0) (by rw [q5]; exact c2)]
        refine ⟨⟨fun q => absurd q c0, fun _ => q4, fun q => q5.trans q, fun q => absurd q c2, fun q => q5.trans q, fun q => q5.trans q⟩, rfl⟩
  refine ⟨fun s hs => ?_, new, me.2⟩
  by_cases e : s = j
  · subst e; exact me.1
  · exact old s (by omega)
theorem PA_L {N : Nat} {b : S2} (lw : Lw N b) : ∀ (m j : Nat) (c : S2), j + m = N → PA j b c → PA N b (itn cmb m j c) := by
  intro m
  induction m with
  | zero =>
    intro j c hj h
    have e : j = N := by omega
    subst e
    exact h
  | succ m ih =>
    intro j c hj h
    exact ih (j + 1) (cmb c j) (by omega) (PA_st h lw (by omega))
theorem PA_0 (b : S2) : PA 0 b b := ⟨fun s hs => by omega, fun s _ => ⟨rfl, rfl, rfl⟩, by show b 0 1 = b 0 1 + 0; rw [a0]⟩
/-! the guards' turns -/
def TB (c d : S2) (s : Nat) : Prop := (c 5 s = 0 → d 5 s = 0 ∨ d 5 s = 1) ∧ (c 5 s = 1 → d 5 s = 1 ∨ d 5 s = 2 ∨ (d 5 s = 4 ∧ 0 < hid (c 1 s) (c 2 s))) ∧ (c 5 s ≠ 0 → c 5 s ≠ 1 → d 5 s = c 5 s)
abbrev pI (c d : S2) : Nat → Int32 := fun s => if c 5 s = 1 ∧ d 5 s = 4 then 3 * hid (c 1 s) (c 2 s) else 0
def PB (N G g : Nat) (c d : S2) : Prop :=
  (d 0 0 = c 0 0 ∧ d 0 1 = c 0 1) ∧ (d 1 = c 1 ∧ d 2 = c 2 ∧ d 3 = c 3 ∧ d 4 = c 4) ∧ (∀ s, s < N → TB c d s) ∧ (∀ i, g ≤ i → d 9 i = c 9 i) ∧ d 0 2 = c 0 2 + sm (pI c d) N ∧ GL G d ∧ CV N G d
theorem TB_cg {c d e : S2} {s : Nat} (h : TB c d s) (e5 : e 5 s = d 5 s) : TB c e s := by
  unfold TB
  rw [e5]
  exact h
theorem stime_n {N G : Nat} {d : S2} (v : Iv N G d) (k : Rg N d) {t : Nat} (ht : t < N) : ∃ x, 1 ≤ x ∧ x ≤ 100 ∧ stime N d t = nI x := by
  obtain ⟨s, s1, s2⟩ := la_bd v.1.1 (fun t ht => (k t ht).2.2)
  obtain ⟨-, ⟨c, c1, c2⟩, -⟩ := k t ht
  refine ⟨2 + c + s / 4, by omega, by omega, ?_⟩
  unfold stime
  rw [s2, c2, show (2 : Int32) = nI 2 from rfl, show (4 : Int32) = nI 4 from rfl, nI_add, pk_div (by omega) (by omega) (by omega), nI_add]
theorem PB_st {N G g : Nat} {c d : S2} (h : PB N G g c d) (vc : Iv N G c) (v : Iv N G d) (k : Rg N d) (hg : g < G) : PB N G (g + 1) c (wrk N d g) := by
  obtain ⟨⟨h00, h01⟩, ⟨h1, h2, h3, h4⟩, hT, h9, hp, hl, hc⟩ := h
  have hN := v.1.1
  obtain ⟨⟨w1, w2, w3, w4⟩, wo, w00, w01⟩ := wrk_c v hg
  have o9 : ∀ i, g + 1 ≤ i → wrk N d g 9 i = c 9 i := fun i hi => (wo i (by omega)).2.1.trans (h9 i (by omega))
  have pI_cg : ∀ e : S2, (∀ s, s < N → pI c e s = pI c d s) → e 0 2 = d 0 2 → e 0 2 = c 0 2 + sm (pI c e) N := by
    intro e he h02
    rw [h02, hp, sm_cg N he]
  suffices S : (∀ s, s < N → TB c (wrk N d g) s) ∧ wrk N d g 0 2 = c 0 2 + sm (pI c (wrk N d g)) N ∧ ((wrk N d g 9 g = -1 ∧ wrk N d g 10 g = 0) ∨ (wrk N d g 9 g ≠ -1 ∧ ∃ k, 1 ≤ k ∧ k ≤ 100 ∧ wrk N d g 10 g = nI k)) ∧ CV N G (wrk N d g) by
    obtain ⟨s1, s2, s3, s4⟩ := S
    refine ⟨⟨w00.trans h00, w01.trans h01⟩, ⟨w1.trans h1, w2.trans h2, w3.trans h3, w4.trans h4⟩, s1, o9, s2, fun i hi => ?_, s4⟩
    by_cases e : i = g
    · subst e; exact s3
    · obtain ⟨-, q9, q10⟩ := wo i e
      rw [q9, q10]
      exact hl i hi
  unfold wrk
  by_cases c9 : d 9 g = -1
  · rw [if_pos c9]
    have g0 : d 10 g = 0 := by
      rcases hl g hg with q | q
      · exact q.2
      · exact absurd c9 q.1
    rcases fa_cases (d 5) N 0 with ⟨f1, f2⟩ | ⟨i, f1, f2, f3, f4⟩
    · rw [if_pos f1]
      refine ⟨fun s hs => TB_cg (hT s hs) (by rw [up2_n (by omega)]), pI_cg _ (fun s hs => by show (if _ ∧ up2 d 8 g _ 5 s = 4 then _ else _) = _; rw [up2_n (by omega)]) (by rw [up2_n (by omega)]), Or.inl ⟨by rw [up2_n (by omega)]; exact c9, by rw [up2_n (by omega)]; exact g0⟩, fun s hs h => ?_⟩
      rw [up2_n (by omega)] at h
      obtain ⟨x, x1, x2⟩ := hc s hs h
      exact ⟨x, x1, by rw [up2_n (by omega)]; exact x2⟩
    · have hi : i < N := by omega
      rw [f4, if_neg (nI_m1 i (by omega)), nI_clamp (by omega)]
      unfold beg
      have d5 : ∀ s, s ≠ i → up2 (up2 (up2 d 9 g (nI i)) 10 g (stime N d i)) 5 i 1 5 s = d 5 s := fun s hs => by simp (disch := omega) only [up2_n]
      have d5i : up2 (up2 (up2 d 9 g (nI i)) 10 g (stime N d i)) 5 i 1 5 i = 1 := up2_e ⟨rfl, rfl⟩
      have c5i : c 5 i = 0 := by
        obtain ⟨t0, t1, t2⟩ := hT i hi
        by_cases z0 : c 5 i = 0
        · exact z0
        · by_cases z1 : c 5 i = 1
          · rcases t1 z1 with q | q | ⟨q, -⟩ <;> rw [f3] at q <;> exact absurd q (by decide)
          · exact absurd ((t2 z0 z1).symm.trans f3) z0
      refine ⟨fun s hs => ?_, pI_cg _ (fun s hs => ?_) (by simp (disch := omega) only [up2_n]), Or.inr ⟨?_, ?_⟩, fun s hs h => ?_⟩
      · by_cases e : s = i
        · subst e
          refine ⟨fun _ => Or.inr d5i, fun q => absurd (c5i.symm.trans q) (by decide), fun q => absurd c5i q⟩
        · exact TB_cg (hT s hs) (d5 s e)
      · by_cases e : s = i
        · subst e
          show (if c 5 s = 1 ∧ _ then _ else _) = (if c 5 s = 1 ∧ _ then _ else _)
          rw [if_neg (fun q => absurd (c5i.symm.trans q.1) (by decide)), if_neg (fun q => absurd (c5i.symm.trans q.1) (by decide))]
        · show (if c 5 s = 1 ∧ _ = 4 then _ else _) = (if c 5 s = 1 ∧ d 5 s = 4 then _ else _)
          rw [d5 s e]
      · simp (disch := omega) only [up2_e, up2_n]
        exact nI_m1 i (by omega)
      · obtain ⟨x, x1, x2, x3⟩ := stime_n v k hi
        exact ⟨x, x1, x2, by simp (disch := omega) only [up2_e, up2_n]; exact x3⟩
      · by_cases e : s = i
        · subst e
          exact ⟨g, hg, by simp (disch := omega) only [up2_e, up2_n]⟩
        · rw [d5 s e] at h
          obtain ⟨x, x1, x2⟩ := hc s hs h
          refine ⟨x, x1, ?_⟩
          have : x ≠ g := by
            intro q
            rw [q, c9] at x2
            exact nI_m1 s (by omega) x2.symm
          simp (disch := omega) only [up2_n]
          exact x2
  · rw [if_neg c9]
    rcases (v.2.1.1 g hg).2 with q | ⟨t, q1, q2, q3⟩
    · exact absurd q c9
    · rw [q2, nI_clamp (by omega)]
      have cg : c 9 g = nI t := (h9 g (Nat.le_refl g)).symm.trans q2
      have c5t : c 5 t = 1 := by
        rcases (vc.2.1.1 g hg).2 with z | ⟨s, z1, z2, z3⟩
        · rw [cg] at z
          exact absurd z (nI_m1 t (by omega))
        · have := nI_inj (by omega) (by omega) (cg.symm.trans z2)
          rw [this]
          exact z3
      obtain ⟨x, x1, x2, x3⟩ : ∃ x, 1 ≤ x ∧ x ≤ 100 ∧ d 10 g = nI x := by
        rcases hl g hg with z | z
        · exact absurd z.1 c9
        · exact z.2
      unfold son
      rw [x3, nI_m x1]
      by_cases hx : x = 1
      · subst hx
        rw [if_pos (show nI (1 - 1) ≤ 0 by decide)]
        by_cases hf : fnd d g t = 0
        · rw [if_pos hf]
          have d5 : ∀ s, s ≠ t → up2 (up2 (up2 (up2 (up2 d 10 g (nI (1 - 1))) 5 t 2) 6 t 5) 9 g (-1)) 8 g (mxa (d 8 g)) 5 s = d 5 s := fun s hs => by simp (disch := omega) only [up2_n]
          have d5t : up2 (up2 (up2 (up2 (up2 d 10 g (nI (1 - 1))) 5 t 2) 6 t 5) 9 g (-1)) 8 g (mxa (d 8 g)) 5 t = 2 := by simp (disch := omega) only [up2_e, up2_n]
          refine ⟨fun s hs => ?_, pI_cg _ (fun s hs => ?_) (by simp (disch := omega) only [up2_n]), Or.inl ⟨by simp (disch := omega) only [up2_e, up2_n], by simp (disch := omega) only [up2_e, up2_n]; rfl⟩, fun s hs h => ?_⟩
          · by_cases e : s = t
            · subst e
              exact ⟨fun q => absurd (c5t.symm.trans q) (by decide), fun _ => Or.inr (Or.inl d5t), fun _ q => absurd c5t q⟩
            · exact TB_cg (hT s hs) (d5 s e)
          · by_cases e : s = t
            · subst e
              show (if c 5 s = 1 ∧ _ = 4 then _ else _) = (if c 5 s = 1 ∧ d 5 s = 4 then _ else _)
              rw [d5t, q3, if_neg (fun q => absurd q.2 (by decide)), if_neg (fun q => absurd q.2 (by decide))]
            · show (if c 5 s = 1 ∧ _ = 4 then _ else _) = (if c 5 s = 1 ∧ d 5 s = 4 then _ else _)
              rw [d5 s e]
          · by_cases e : s = t
            · subst e
              rw [d5t] at h
              exact absurd h (by decide)
            · rw [d5 s e] at h
              obtain ⟨y, y1, y2⟩ := hc s hs h
              refine ⟨y, y1, ?_⟩
              have : y ≠ g := by
                intro q
                rw [q, q2] at y2
                exact e (nI_inj (by omega) (by omega) y2).symm
              simp (disch := omega) only [up2_n]
              exact y2
        · rw [if_neg hf]
          have hp0 : 0 < hid (c 1 t) (c 2 t) := by
            rw [← h1, ← h2]
            unfold fnd at hf
            by_cases z : hid (d 1 t) (d 2 t) ≤ 0
            · rw [if_pos z] at hf
              exact absurd rfl hf
            · exact nle_lt z
          have d5 : ∀ s, s ≠ t → up2 (up2 (up2 (up2 (up2 d 10 g (nI (1 - 1))) 0 2 (d 0 2 + 3 * hid (d 1 t) (d 2 t))) 5 t 4) 9 g (-1)) 8 g (mxa (d 8 g)) 5 s = d 5 s := fun s hs => by simp (disch := omega) only [up2_n]
          have d5t : up2 (up2 (up2 (up2 (up2 d 10 g (nI (1 - 1))) 0 2 (d 0 2 + 3 * hid (d 1 t) (d 2 t))) 5 t 4) 9 g (-1)) 8 g (mxa (d 8 g)) 5 t = 4 := by simp (disch := omega) only [up2_e, up2_n]
          refine ⟨fun s hs => ?_, ?_, Or.inl ⟨by simp (disch := omega) only [up2_e, up2_n], by simp (disch := omega) only [up2_e, up2_n]; rfl⟩, fun s hs h => ?_⟩
          · by_cases e : s = t
            · subst e
              exact ⟨fun q => absurd (c5t.symm.trans q) (by decide), fun _ => Or.inr (Or.inr ⟨d5t, hp0⟩), fun _ q => absurd c5t q⟩
            · exact TB_cg (hT s hs) (d5 s e)
          · have e02 : up2 (up2 (up2 (up2 (up2 d 10 g (nI (1 - 1))) 0 2 (d 0 2 + 3 * hid (d 1 t) (d 2 t))) 5 t 4) 9 g (-1)) 8 g (mxa (d 8 g)) 0 2 = d 0 2 + 3 * hid (d 1 t) (d 2 t) := by simp (disch := omega) only [up2_e, up2_n]
            rw [e02, hp, h1, h2, Int32.add_assoc]
            refine congrArg (fun z => c 0 2 + z) (sm_up1 (t := t) N q1 ?_ (fun s hs hn => ?_)).symm
            · show (if c 5 t = 1 ∧ _ = 4 then _ else _) = (if c 5 t = 1 ∧ d 5 t = 4 then _ else _) + _
              rw [hp, h1, h2, Int32.add_assoc] at d5t
              rw [d5t, q3, if_pos ⟨c5t, rfl⟩, if_neg (fun q => absurd q.2 (by decide)), Int32.zero_add]
            · show (if c 5 s = 1 ∧ _ = 4 then _ else _) = (if c 5 s = 1 ∧ d 5 s = 4 then _ else _)
              have := d5 s hn
              rw [hp, h1, h2, Int32.add_assoc] at this
              rw [this]
          · by_cases e : s = t
            · subst e
              rw [d5t] at h
              exact absurd h (by decide)
            · rw [d5 s e] at h
              obtain ⟨y, y1, y2⟩ := hc s hs h
              refine ⟨y, y1, ?_⟩
              have : y ≠ g := by
                intro q
                rw [q, q2] at y2
                exact e (nI_inj (by omega) (by omega) y2).symm
              simp (disch := omega) only [up2_n]
              exact y2
      · rw [if_neg (nI_nle (by omega) (by omega))]
        refine ⟨fun s hs => TB_cg (hT s hs) (by rw [up2_n (by omega)]), pI_cg _ (fun s hs => by show (if _ ∧ up2 d 10 g _ 5 s = 4 then _ else _) = _; rw [up2_n (by omega)]) (by rw [up2_n (by omega)]), Or.inr ⟨by rw [up2_n (by omega)]; exact c9, x - 1, by omega, by omega, by rw [up2_e (by omega)]⟩, fun s hs h => ?_⟩
        rw [up2_n (by omega)] at h
        obtain ⟨y, y1, y2⟩ := hc s hs h
        exact ⟨y, y1, by rw [up2_n (by omega)]; exact y2⟩
theorem PB_L {N G : Nat} {c : S2} (vc : Iv N G c) : ∀ (m g : Nat) (d : S2), g + m = G → Iv N G d → Rg N d → PB N G g c d → PB N G G c (itn (wrk N) m g d) := by
  intro m
  induction m with
  | zero =>
    intro g d hg _ _ h
    have e : g = G := by omega
    subst e
    exact h
  | succ m ih =>
    intro g d hg v k h
    obtain ⟨⟨w1, w2, w3, -⟩, -⟩ := wrk_c v (g := g) (by omega)
    exact ih (g + 1) (wrk N d g) (by omega) (wrk_iv v (by omega)) (Rg_cg k w1 w2 w3) (PB_st h vc v k (by omega))
/-! the minute -/
def TM (b c : S2) (s : Nat) : Prop := (b 5 s = 0 → c 4 s = b 4 s - 1 ∧ (b 4 s = 1 → c 5 s = 4) ∧ (b 4 s ≠ 1 → c 5 s = 0 ∨ c 5 s = 1)) ∧ (b 5 s ≠ 0 → c 4 s = b 4 s) ∧ (b 5 s = 1 → c 5 s = 1 ∨ c 5 s = 2 ∨ (c 5 s = 4 ∧ 0 < hid (b 1 s) (b 2 s))) ∧ (b 5 s = 2 → c 5 s = 2 ∨ c 5 s = 3) ∧ (b 5 s = 3 → c 5 s = 3) ∧ (b 5 s = 4 → c 5 s = 4)
def MS (N G : Nat) (b c : S2) : Prop := c 0 0 = b 0 0 + 1 ∧ c 0 1 = b 0 1 + sm (eI b) N ∧ c 0 2 = b 0 2 + sm (pI b c) N ∧ (c 1 = b 1 ∧ c 2 = b 2 ∧ c 3 = b 3) ∧ (∀ s, s < N → TM b c s) ∧ GL G c ∧ CV N G c
theorem mn_ms {N G : Nat} {b : S2} (h : Jv N G b) : MS N G b (mn N G b) := by
  obtain ⟨v, hG, k, ls, gl, cv, ex⟩ := h
  have hN := v.1.1
  have lw := Lw_of ls
  have v1 : Iv N G (itn cmb N 0 b) := itn_iv (fun b g hg hb => cmb_iv hb hg) N 0 _ (by omega) v
  have v2 : Iv N G (itn (wrk N) G 0 (itn cmb N 0 b)) := itn_iv (fun b g hg hb => wrk_iv hb hg) G 0 _ (by omega) v1
  obtain ⟨A1, -, A3⟩ := PA_L lw N 0 b (by omega) (PA_0 b)
  obtain ⟨⟨c1, c2, c3⟩, ⟨c8, c9, c10⟩, c00, c02⟩ := itn_cmb_c N 0 b
  rw [mn_cmb]
  generalize itn cmb N 0 b = c at *
  have st1 : ∀ s, s < N → c 5 s = 1 → b 5 s = 1 := by
    intro s hs h
    obtain ⟨a1, a2, a3, a4, a5, a6⟩ := A1 s hs
    rcases (ls s hs).2 with z | z | z | z | z
    · by_cases q : b 4 s = 1
      · rw [(a1 z).2.1 q] at h; exact absurd h (by decide)
      · rw [(a1 z).2.2 q] at h; exact absurd h (by decide)
    · exact z
    · rcases a4 z with q | q <;> rw [q] at h <;> exact absurd h (by decide)
    · rw [a5 z] at h; exact absurd h (by decide)
    · rw [a6 z] at h; exact absurd h (by decide)
  have P0 : PB N G 0 c c := by
    refine ⟨⟨rfl, rfl⟩, ⟨rfl, rfl, rfl, rfl⟩, fun s _ => ⟨fun q => Or.inl q, fun q => Or.inl q, fun _ _ => rfl⟩, fun i _ => rfl, ?_, ?_, ?_⟩
    · rw [sm_0 N (fun i _ => if_neg (fun q => absurd (q.1.symm.trans q.2) (by decide))), a0]
    · intro i hi
      rw [c9, c10]
      exact gl i hi
    · intro s hs h
      rw [c9]
      exact cv s hs (st1 s hs h)
  obtain ⟨⟨d00, d01⟩, ⟨d1, d2, d3, d4⟩, B5, -, Bp, Bl, Bc⟩ := PB_L v1 G 0 c (by omega) v1 (Rg_cg k c1 c2 c3) P0
  generalize itn (wrk N) G 0 c = d at *
  refine ⟨by rw [up2_e (by omega), d00, c00], by rw [up2_n (by omega), d01, A3], ?_, ⟨by rw [up2_c (by omega), d1, c1], by rw [up2_c (by omega), d2, c2], by rw [up2_c (by omega), d3, c3]⟩, fun s hs => ?_, fun i hi => ?_, fun s hs h => ?_⟩
  · rw [up2_n (by omega), Bp, c02]
    refine congrArg (fun z => b 0 2 + z) (sm_cg N (fun s hs => ?_))
    show (if c 5 s = 1 ∧ d 5 s = 4 then 3 * hid (c 1 s) (c 2 s) else 0) = (if b 5 s = 1 ∧ up2 d 0 0 _ 5 s = 4 then 3 * hid (b 1 s) (b 2 s) else 0)
    rw [up2_n (by omega), c1, c2]
    by_cases z : b 5 s = 1
    · rw [(A1 s hs).2.2.1 z, z]
    · rw [if_neg (fun q => z (st1 s hs q.1)), if_neg (fun q => z q.1)]
  · obtain ⟨a1, a2, a3, a4, a5, a6⟩ := A1 s hs
    obtain ⟨b0, b1, b2⟩ := B5 s hs
    unfold TM
    rw [up2_n (k' := 4) (by omega), up2_n (k' := 5) (by omega), d4]
    rw [c1, c2] at b1
    refine ⟨fun z => ⟨(a1 z).1, fun q => ?_, fun q => ?_⟩, a2, fun z => b1 (a3 z), fun z => ?_, fun z => ?_, fun z => ?_⟩
    · have := (a1 z).2.1 q
      rw [b2 (by rw [this]; decide) (by rw [this]; decide), this]
    · exact b0 ((a1 z).2.2 q)
    · rcases a4 z with q | q
      · exact Or.inl (by rw [b2 (by rw [q]; decide) (by rw [q]; decide), q])
      · exact Or.inr (by rw [b2 (by rw [q]; decide) (by rw [q]; decide), q])
    · have := a5 z
      rw [b2 (by rw [this]; decide) (by rw [this]; decide), this]
    · have := a6 z
      rw [b2 (by rw [this]; decide) (by rw [this]; decide), this]
  · rw [up2_n (by omega), up2_n (by omega)]
    exact Bl i hi
  · rw [up2_n (by omega)] at h
    obtain ⟨i, i1, i2⟩ := Bc s hs h
    exact ⟨i, i1, by rw [up2_n (by omega)]; exact i2⟩
theorem mn_jv {N G : Nat} {b : S2} (h : Jv N G b) : Jv N G (mn N G b) := by
  have hm := mn_ms h
  obtain ⟨v, hG, k, ls, gl, cv, ⟨e, e1, e2⟩⟩ := h
  have v' := mn_iv v
  generalize mn N G b = c at *
  obtain ⟨m0, m1, m2, ⟨m3, m4, m5⟩, mt, mg, mc⟩ := hm
  refine ⟨v', hG, Rg_cg k m3 m4 m5, fun s hs => ?_, mg, mc, ?_⟩
  · obtain ⟨t0, tn, t1, t2, t3, t4⟩ := mt s hs
    obtain ⟨⟨x, x1, x2, x3⟩, st⟩ := ls s hs
    rcases st with z | z | z | z | z
    · obtain ⟨p1, p2, p3⟩ := t0 z
      have hx := x3 z
      refine ⟨⟨x - 1, by omega, by rw [p1, x2, nI_m hx], fun q => ?_⟩, ?_⟩
      · by_cases y : b 4 s = 1
        · rw [p2 y] at q; exact absurd q (by decide)
        · have : x ≠ 1 := fun w => y (by rw [x2, w]; rfl)
          omega
      · by_cases y : b 4 s = 1
        · exact Or.inr (Or.inr (Or.inr (Or.inr (p2 y))))
        · rcases p3 y with q | q
          · exact Or.inl q
          · exact Or.inr (Or.inl q)
    · have e4 := tn (by rw [z]; decide)
      rcases t1 z with q | q | ⟨q, -⟩
      · exact ⟨⟨x, x1, by rw [e4, x2], fun w => absurd (q.symm.trans w) (by decide)⟩, Or.inr (Or.inl q)⟩
      · exact ⟨⟨x, x1, by rw [e4, x2], fun w => absurd (q.symm.trans w) (by decide)⟩, Or.inr (Or.inr (Or.inl q))⟩
      · exact ⟨⟨x, x1, by rw [e4, x2], fun w => absurd (q.symm.trans w) (by decide)⟩, Or.inr (Or.inr (Or.inr (Or.inr q)))⟩
    · have e4 := tn (by rw [z]; decide)
      rcases t2 z with q | q
      · exact ⟨⟨x, x1, by rw [e4, x2], fun w => absurd (q.symm.trans w) (by decide)⟩, Or.inr (Or.inr (Or.inl q))⟩
      · exact ⟨⟨x, x1, by rw [e4, x2], fun w => absurd (q.symm.trans w) (by decide)⟩, Or.inr (Or.inr (Or.inr (Or.inl q)))⟩
    · have e4 := tn (by rw [z]; decide)
      have q := t3 z
      exact ⟨⟨x, x1, by rw [e4, x2], fun w => absurd (q.symm.trans w) (by decide)⟩, Or.inr (Or.inr (Or.inr (Or.inl q)))⟩
    · have e4 := tn (by rw [z]; decide)
      have q := t4 z
      exact ⟨⟨x, x1, by rw [e4, x2], fun w => absurd (q.symm.trans w) (by decide)⟩, Or.inr (Or.inr (Or.inr (Or.inr q)))⟩
  · have hs := sm_nI (f := eI b) (p := fun s => if b 5 s = 0 ∧ b 4 s = 1 then 1 else 0) N (fun i _ => by
      show (if b 5 i = 0 ∧ b 4 i = 1 then (1 : Int32) else 0) = nI (if b 5 i = 0 ∧ b 4 i = 1 then 1 else 0)
      split <;> rfl)
    refine ⟨e + smn (fun s => if b 5 s = 0 ∧ b 4 s = 1 then 1 else 0) N, by rw [m1, e1, hs, nI_add], ?_⟩
    have le := smn_mono (p := fun s => sN (b 5) 4 s + (if b 5 s = 0 ∧ b 4 s = 1 then 1 else 0)) (q := sN (c 5) 4) N (fun s hs => by
      obtain ⟨t0, tn, t1, t2, t3, t4⟩ := mt s hs
      show (if b 5 s = 4 then 1 else 0) + (if b 5 s = 0 ∧ b 4 s = 1 then 1 else 0) ≤ (if c 5 s = 4 then 1 else 0)
      by_cases z4 : b 5 s = 4
      · rw [if_pos z4, if_pos (t4 z4), if_neg (fun q => absurd (z4.symm.trans q.1) (by decide))]
        omega
      · rw [if_neg z4]
        by_cases z0 : b 5 s = 0 ∧ b 4 s = 1
        · rw [if_pos z0, if_pos ((t0 z0.1).2.1 z0.2)]
          omega
        · rw [if_neg z0]
          omega)
    rw [smn_add (f := sN (b 5) 4) (g := fun s => if b 5 s = 0 ∧ b 4 s = 1 then 1 else 0) N (fun i _ => rfl)] at le
    omega
theorem itm_jv {N G : Nat} : ∀ (k : Nat) {b : S2}, Jv N G b → Jv N G (itm N G k b) := by
  intro k
  induction k with
  | zero => intro b h; exact h
  | succ k ih => intro b h; exact ih (mn_jv h)
