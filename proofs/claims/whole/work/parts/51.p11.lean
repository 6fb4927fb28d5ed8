/-! PURE 11: the digest; the law -/
theorem bx1_r {α γ : Type} (x : α) (K : α → Option (Nat ⊕ γ)) : bx1 (some (.inr x)) K = K x := rfl
theorem bx2_r {α β γ : Type} (x : α) (y : β) (K : α → β → Option (Nat ⊕ γ)) : bx2 (some (.inr (x, y))) K = K x y := rfl
theorem bz1_r {α γ : Type} (x : α) (K : α → Option γ) : bz1 (some (.inr x)) K = K x := rfl
theorem bz2_r {α β γ : Type} (x : α) (y : β) (K : α → β → Option γ) : bz2 (some (.inr (x, y))) K = K x y := rfl
def mx (h : Int64) (v : Int32) : Int64 := h * 31 + Int32.toInt64 v
theorem mix_e (h : Int64) (v : Int32) : X1_mix h v = some (mx h v) := rfl
def mt (N G : Nat) (b c : S2) : Nat → Nat → Int64 → Int64
  | 0, _, h => h
  | m + 1, t, h => mt N G b c m (t + 1) (mx (mx (mx (mx (mx (mx h (b 5 t)) (hid (b 1 t) (b 2 t))) (b 4 t)) (plc b t)) (stime N b t)) (fs N G t c))
def mg (b : S2) : Nat → Nat → Int64 → Int64
  | 0, _, h => h
  | m + 1, g, h => mg b m (g + 1) (mx (mx (mx h (b 8 g)) (b 9 g)) (b 10 g))
def mxs (f : Nat → Int32) : Nat → Nat → Int64 → Int64
  | 0, _, h => h
  | m + 1, j, h => mxs f m (j + 1) (mx h (f j))
theorem mixT_L {N G : Nat} {b1 c d : S2} (v : Iv N G b1) (e : Ag N G b1 c) (d5 : d 5 = itm N G 100 c 5) (d7 : d 7 = itm N G 100 c 7) : ∀ (m n t : Nat) (h : Int64), t + m = N → m < n → X1_mixTravellers_L25 b1 d n h (nI t) = some (.inr (mt N G b1 c m t h, d)) := by
  have hN := v.1.1
  have vc := Iv_ag v e
  intro m
  induction m with
  | zero =>
    intro n t h ht hn
    obtain ⟨n, rfl⟩ := pos_fuel hn
    rw [X1_mixTravellers_L25, v.1.2.2.1, if_pos (nI_le (by omega) (by omega))]
    rfl
  | succ m ih =>
    intro n t h ht hn
    obtain ⟨n, rfl⟩ := pos_fuel hn
    have tN : t < N := by omega
    have e1 := isT_1 v.1.2.2.1 hN tN
    have E0 : X1_foreseenSleep b1 d (nI t) = some (fs N G t c) := foresee_e (by omega) vc (e.1 0 (by omega)).symm (e.2.1 5 t (by omega) (by omega) tN).symm (by rw [d5]) (by rw [d7])
    rw [X1_mixTravellers_L25, v.1.2.2.1, if_neg (nI_ge tN (by omega)), stateOf_1 (by omega) e1, bz1_r, mix_e, bd1_some, hiddenOf_1 (by omega) e1, bz1_r, mix_e, bd1_some, lullabyOf_1 (by omega) e1, bz1_r, mix_e, bd1_some, placeInLine_1 v.1 tN e1, bz1_r, mix_e, bd1_some, searchTime_1 v.1 tN e1, bz1_r, mix_e, bd1_some, E0, bd1_some, mix_e, bd1_some, nI_1]
    exact ih n (t + 1) _ (by omega) (by omega)
theorem isG_1 {N G : Nat} {b : S2} (h : Hd N G b) {g : Nat} (hg : g < G) : X0_isGuard b (nI g) = some 1 := by
  have hG := h.2.1
  unfold X0_isGuard
  rw [if_neg (nI_pos (by omega)), h.2.2.2, if_neg (nI_ge hg (by omega))]
theorem mixG_L {N G : Nat} {b1 d : S2} (v : Hd N G b1) : ∀ (m n g : Nat) (h : Int64), g + m = G → m < n → X1_mixGuards_L5 b1 d n h (nI g) = some (.inr (mg b1 m g h)) := by
  have hG := v.2.1
  intro m
  induction m with
  | zero =>
    intro n g h hg hn
    obtain ⟨n, rfl⟩ := pos_fuel hn
    rw [X1_mixGuards_L5, v.2.2.2, if_pos (nI_le (by omega) (by omega))]
    rfl
  | succ m ih =>
    intro n g h hg hn
    obtain ⟨n, rfl⟩ := pos_fuel hn
    have e1 := isG_1 v (g := g) (by omega)
    rw [X1_mixGuards_L5, v.2.2.2, if_neg (nI_ge (by omega) (by omega)), alertnessOf_1 (by omega) e1, bx1_r, mix_e, bd1_some, searches_1 (by omega) e1, bx1_r, mix_e, bd1_some, minutesToGo_1 (by omega) e1, bx1_r, mix_e, bd1_some, nI_1]
    exact ih n (g + 1) _ (by omega) (by omega)
theorem dg3 {K : Int64 → Option (Int64 × S2)} {w : S2} {f : Nat → Int32} {g : Nat} (hg : g < 8) (n : Nat) (h : Int64) : X2_digest_L305 K (nI g) w f (n + 4) h 0 = K (mx (mx (mx h (w 3 (4 + 3 * g))) (w 3 (5 + 3 * g))) (w 3 (6 + 3 * g))) := by
  rw [X2_digest_L305, if_neg (by decide), gu0 hg, bd1_some, show (0 : Int32) + 1 = 1 from rfl, X2_digest_L305, if_neg (by decide), gu1 hg, bd1_some, show (1 : Int32) + 1 = 2 from rfl, X2_digest_L305, if_neg (by decide), gu2 hg, bd1_some, show (2 : Int32) + 1 = 3 from rfl, X2_digest_L305, if_pos (by decide)]
  rfl
theorem mgR_L {N G : Nat} {w b : S2} {f : Nat → Int32} (r : RM N G w b) (hG : G ≤ 8) : ∀ (m n g : Nat) (h : Int64), g + m = G → m < n → X2_digest_L291 w f n h (nI g) = some (mg b m g h, w) := by
  intro m
  induction m with
  | zero =>
    intro n g h hg hn
    obtain ⟨n, rfl⟩ := pos_fuel hn
    rw [X2_digest_L291, ld3_3, bd1_some, r.1.2.2.2.2, if_pos (nI_le (by omega) (by omega))]
    rfl
  | succ m ih =>
    intro n g h hg hn
    obtain ⟨n, rfl⟩ := pos_fuel hn
    obtain ⟨q1, q2, q3⟩ := r.2.1 g (by omega)
    rw [X2_digest_L291, ld3_3, bd1_some, r.1.2.2.2.2, if_neg (nI_ge (by omega) (by omega)), show (200 : Nat) = 196 + 4 from rfl, dg3 (by omega), q1, q2, q3, nI_1]
    exact ih n (g + 1) _ (by omega) (by omega)
theorem mix6_L {K : Int64 → Option (Int64 × S2)} {w : S2} {f f13 : Nat → Int32} {l : Int32} : ∀ (m n j : Nat) (h : Int64), j + m = 6 → m < n → X2_digest_L252 K l 6 w f13 f n h (nI j) = K (mxs f m j h) := by
  intro m
  induction m with
  | zero =>
    intro n j h hj hn
    obtain ⟨n, rfl⟩ := pos_fuel hn
    rw [X2_digest_L252, if_pos (show (6 : Int32) ≤ nI j from nI_le (a := 6) (by omega) (by omega))]
    rfl
  | succ m ih =>
    intro n j h hj hn
    obtain ⟨n, rfl⟩ := pos_fuel hn
    rw [X2_digest_L252, if_neg (show ¬ (6 : Int32) ≤ nI j from nI_ge (b := 6) (by omega) (by omega)), ldA_n (by omega) (by omega), bd1_some, nI_1]
    exact ih n (j + 1) _ (by omega) (by omega)
theorem mix13_L {w : S2} {f : Nat → Int32} : ∀ (m n j : Nat) (h : Int64), j + m = 13 → m < n → X2_digest_L136 13 w f n h (nI j) = X2_digest_L169 f 25 (mxs f m j h) 0 w := by
  intro m
  induction m with
  | zero =>
    intro n j h hj hn
    obtain ⟨n, rfl⟩ := pos_fuel hn
    rw [X2_digest_L136, if_pos (show (13 : Int32) ≤ nI j from nI_le (a := 13) (by omega) (by omega))]
    rfl
  | succ m ih =>
    intro n j h hj hn
    obtain ⟨n, rfl⟩ := pos_fuel hn
    rw [X2_digest_L136, if_neg (show ¬ (13 : Int32) ≤ nI j from nI_ge (b := 13) (by omega) (by omega)), ldA_n (by omega) (by omega), bd1_some, nI_1]
    exact ih n (j + 1) _ (by omega) (by omega)

theorem sf6_0 (f : Nat → Int32) (v : Int32) : stF f 6 0 v = some (upd f 0 v) := stF_n (k := 0) (by omega) (by omega)
theorem sf6_1 (f : Nat → Int32) (v : Int32) : stF f 6 1 v = some (upd f 1 v) := stF_n (k := 1) (by omega) (by omega)
theorem sf6_2 (f : Nat → Int32) (v : Int32) : stF f 6 2 v = some (upd f 2 v) := stF_n (k := 2) (by omega) (by omega)
theorem sf6_3 (f : Nat → Int32) (v : Int32) : stF f 6 3 v = some (upd f 3 v) := stF_n (k := 3) (by omega) (by omega)
theorem sf6_4 (f : Nat → Int32) (v : Int32) : stF f 6 4 v = some (upd f 4 v) := stF_n (k := 4) (by omega) (by omega)
theorem sf6_5 (f : Nat → Int32) (v : Int32) : stF f 6 5 v = some (upd f 5 v) := stF_n (k := 5) (by omega) (by omega)
theorem sf13_0 (f : Nat → Int32) (v : Int32) : stF f 13 0 v = some (upd f 0 v) := stF_n (k := 0) (by omega) (by omega)
theorem sf13_1 (f : Nat → Int32) (v : Int32) : stF f 13 1 v = some (upd f 1 v) := stF_n (k := 1) (by omega) (by omega)
theorem sf13_2 (f : Nat → Int32) (v : Int32) : stF f 13 2 v = some (upd f 2 v) := stF_n (k := 2) (by omega) (by omega)
theorem sf13_3 (f : Nat → Int32) (v : Int32) : stF f 13 3 v = some (upd f 3 v) := stF_n (k := 3) (by omega) (by omega)
theorem sf13_4 (f : Nat → Int32) (v : Int32) : stF f 13 4 v = some (upd f 4 v) := stF_n (k := 4) (by omega) (by omega)
theorem sf13_5 (f : Nat → Int32) (v : Int32) : stF f 13 5 v = some (upd f 5 v) := stF_n (k := 5) (by omega) (by omega)
theorem sf13_6 (f : Nat → Int32) (v : Int32) : stF f 13 6 v = some (upd f 6 v) := stF_n (k := 6) (by omega) (by omega)
theorem sf13_7 (f : Nat → Int32) (v : Int32) : stF f 13 7 v = some (upd f 7 v) := stF_n (k := 7) (by omega) (by omega)
theorem sf13_8 (f : Nat → Int32) (v : Int32) : stF f 13 8 v = some (upd f 8 v) := stF_n (k := 8) (by omega) (by omega)
theorem sf13_9 (f : Nat → Int32) (v : Int32) : stF f 13 9 v = some (upd f 9 v) := stF_n (k := 9) (by omega) (by omega)
theorem sf13_10 (f : Nat → Int32) (v : Int32) : stF f 13 10 v = some (upd f 10 v) := stF_n (k := 10) (by omega) (by omega)
theorem sf13_11 (f : Nat → Int32) (v : Int32) : stF f 13 11 v = some (upd f 11 v) := stF_n (k := 11) (by omega) (by omega)
theorem sf13_12 (f : Nat → Int32) (v : Int32) : stF f 13 12 v = some (upd f 12 v) := stF_n (k := 12) (by omega) (by omega)
theorem mxs6 (y0 y1 y2 y3 y4 y5 : Int32) (h : Int64) : mxs (upd (upd (upd (upd (upd (upd (fun _ => 0) 0 y0) 1 y1) 2 y2) 3 y3) 4 y4) 5 y5) 6 0 h = (mx (mx (mx (mx (mx (mx h y0) y1) y2) y3) y4) y5) := by
  simp [mxs, upd]
theorem mxs13 (y0 y1 y2 y3 y4 y5 y6 y7 y8 y9 y10 y11 y12 : Int32) (h : Int64) : mxs (upd (upd (upd (upd (upd (upd (upd (upd (upd (upd (upd (upd (upd (fun _ => 0) 0 y0) 1 y1) 2 y2) 3 y3) 4 y4) 5 y5) 6 y6) 7 y7) 8 y8) 9 y9) 10 y10) 11 y11) 12 y12) 13 0 h = (mx (mx (mx (mx (mx (mx (mx (mx (mx (mx (mx (mx (mx h y0) y1) y2) y3) y4) y5) y6) y7) y8) y9) y10) y11) y12) := by
  simp [mxs, upd]
theorem mtR_L {N G : Nat} {f : Nat → Int32} {b c : S2} (v : Iv N G b) (vc : Iv N G c) : ∀ (m n t : Nat) (h : Int64) (w : S2), t + m = N → m < n → RM N G w b → RM N G w c → ∃ w', X2_digest_L169 f n h (nI t) w = X2_digest_L291 w' f 200 (mt N G b c m t h) 0 ∧ RM N G w' b := by
  have hN := v.1.1
  intro m
  induction m with
  | zero =>
    intro n t h w ht hn r rc
    obtain ⟨n, rfl⟩ := pos_fuel hn
    rw [X2_digest_L169, r.1.1, if_pos (nI_le (by omega) (by omega))]
    exact ⟨w, rfl, r⟩
  | succ m ih =>
    intro n t h w ht hn r rc
    obtain ⟨n, rfl⟩ := pos_fuel hn
    have tN : t < N := by omega
    obtain ⟨-, -, q5, q4, -, -⟩ := r.2.2.1 t tN
    obtain ⟨w', u1, u2, -⟩ := until_r tN rc vc
    rw [X2_digest_L169, r.1.1, if_neg (nI_ge tN (by omega)), tr0 (by omega), bd1_some, sf6_0, bd1_some, hidden_m r hN tN, bd1_some, sf6_1, bd1_some, tr1 (by omega), bd1_some, sf6_2, bd1_some, place_m r hN tN, bd1_some, sf6_3, bd1_some, takes_m r hN tN, bd1_some, sf6_4, bd1_some, u1, bd2_some, sf6_5, bd1_some, q5, q4]
    obtain ⟨w2, g1, g2⟩ := ih n (t + 1) (mx (mx (mx (mx (mx (mx h (b 5 t)) (hid (b 1 t) (b 2 t))) (b 4 t)) (plc b t)) (stime N b t)) (fs N G t c)) w' (by omega) (by omega) (u2 _ r) (u2 _ rc)
    refine ⟨w2, ?_, g2⟩
    refine Eq.trans ?_ g1
    refine (mix6_L 6 200 0 h (by omega) (by omega)).trans ?_
    rw [mxs6, nI_1]
theorem c31 {xs : Nat → Int32} {L : Nat} {K : S2 → S2 → (Nat → Int64) → S2 → Option Int32} {l4 : Int32} {b1 b2 w : S2} {o : Nat → Int64} (hK : KH K) (hI : LI b1 w) : L_law_C31 xs L K l4 b1 b2 o w = some 1 := by
  obtain ⟨N, G, hG, v, r⟩ := hI
  have hN := v.1.1
  have r0 := RM_t r hN (by omega) 0
  obtain ⟨c, d, a1, a2⟩ := asleepIn_1 (k := 30) (b2 := b2) (by omega) (by omega) v
  obtain ⟨w1, s1, s2, -⟩ := sleepers_r (k := 30) (by omega) (RM_ag r0 a2) (Iv_ag v a2)
  obtain ⟨y, d2, w2, g1, g2, g3⟩ := wanted_r hG v (s2 _ r0) d
  obtain ⟨e, b3, b4⟩ := become_e v.1 d2
  have ve := Iv_ag v b4
  obtain ⟨d3, f1, f2, f3, f4, f5⟩ := goOn_e (k := 100) ve (by omega)
  have r2 := g3 _ (s2 _ r0)
  have M1 := mixT_L v b4 f4 f5 N 25 0 (mx (mx (mx (mx (mx (mx (mx (mx (mx (mx (mx (mx (mx 2131 (b1 0 0)) (nI N)) (ca (b1 5) 0 N 0 0)) (ca (b1 5) 3 N 0 0)) (ca (b1 5) 4 N 0 0)) (b1 0 1)) (b1 0 2)) (la (b1 5) (b1 3) N 0 0)) (fa (b1 5) N 0)) (nI G)) (mal (b1 8) G 0 (-1) (-1))) (ca (itm N G 30 c 5) 3 N 0 0)) y) (by omega) (by omega)
  have M2 := mixG_L (d := d3) v.1 G 5 0 (mt N G b1 e N 0 (mx (mx (mx (mx (mx (mx (mx (mx (mx (mx (mx (mx (mx 2131 (b1 0 0)) (nI N)) (ca (b1 5) 0 N 0 0)) (ca (b1 5) 3 N 0 0)) (ca (b1 5) 4 N 0 0)) (b1 0 1)) (b1 0 2)) (la (b1 5) (b1 3) N 0 0)) (fa (b1 5) N 0)) (nI G)) (mal (b1 8) G 0 (-1) (-1))) (ca (itm N G 30 c 5) 3 N 0 0)) y)) (by omega) (by omega)
  obtain ⟨w3, t1, t2⟩ := mtR_L (f := (upd (upd (upd (upd (upd (upd (upd (upd (upd (upd (upd (upd (upd (fun _ => 0) 0 (b1 0 0)) 1 (nI N)) 2 (ca (b1 5) 0 N 0 0)) 3 (ca (b1 5) 3 N 0 0)) 4 (ca (b1 5) 4 N 0 0)) 5 (b1 0 1)) 6 (b1 0 2)) 7 (la (b1 5) (b1 3) N 0 0)) 8 (fa (b1 5) N 0)) 9 (nI G)) 10 (mal (b1 8) G 0 (-1) (-1))) 11 (ca (itm N G 30 c 5) 3 N 0 0)) 12 y)) v ve N 25 0 (mx (mx (mx (mx (mx (mx (mx (mx (mx (mx (mx (mx (mx 2131 (b1 0 0)) (nI N)) (ca (b1 5) 0 N 0 0)) (ca (b1 5) 3 N 0 0)) (ca (b1 5) 4 N 0 0)) (b1 0 1)) (b1 0 2)) (la (b1 5) (b1 3) N 0 0)) (fa (b1 5) N 0)) (nI G)) (mal (b1 8) G 0 (-1) (-1))) (ca (itm N G 30 c 5) 3 N 0 0)) y) w2 (by omega) (by omega) r2 (RM_ag r2 b4)
  have t3 := mgR_L (f := (upd (upd (upd (upd (upd (upd (upd (upd (upd (upd (upd (upd (upd (fun _ => 0) 0 (b1 0 0)) 1 (nI N)) 2 (ca (b1 5) 0 N 0 0)) 3 (ca (b1 5) 3 N 0 0)) 4 (ca (b1 5) 4 N 0 0)) 5 (b1 0 1)) 6 (b1 0 2)) 7 (la (b1 5) (b1 3) N 0 0)) 8 (fa (b1 5) N 0)) 9 (nI G)) 10 (mal (b1 8) G 0 (-1) (-1))) 11 (ca (itm N G 30 c 5) 3 N 0 0)) 12 y)) t2 (by omega) G 200 0 (mt N G b1 e N 0 (mx (mx (mx (mx (mx (mx (mx (mx (mx (mx (mx (mx (mx 2131 (b1 0 0)) (nI N)) (ca (b1 5) 0 N 0 0)) (ca (b1 5) 3 N 0 0)) (ca (b1 5) 4 N 0 0)) (b1 0 1)) (b1 0 2)) (la (b1 5) (b1 3) N 0 0)) (fa (b1 5) N 0)) (nI G)) (mal (b1 8) G 0 (-1) (-1))) (ca (itm N G 30 c 5) 3 N 0 0)) y)) (by omega) (by omega)
  have E1 : X1_digest b1 b2 = some (.inr (mg b1 G 0 (mt N G b1 e N 0 (mx (mx (mx (mx (mx (mx (mx (mx (mx (mx (mx (mx (mx 2131 (b1 0 0)) (nI N)) (ca (b1 5) 0 N 0 0)) (ca (b1 5) 3 N 0 0)) (ca (b1 5) 4 N 0 0)) (b1 0 1)) (b1 0 2)) (la (b1 5) (b1 3) N 0 0)) (fa (b1 5) N 0)) (nI G)) (mal (b1 8) G 0 (-1) (-1))) (ca (itm N G 30 c 5) 3 N 0 0)) y)), d3)) := by
    have m1 : X1_mixTravellers b1 d2 (mx (mx (mx (mx (mx (mx (mx (mx (mx (mx (mx (mx (mx 2131 (b1 0 0)) (nI N)) (ca (b1 5) 0 N 0 0)) (ca (b1 5) 3 N 0 0)) (ca (b1 5) 4 N 0 0)) (b1 0 1)) (b1 0 2)) (la (b1 5) (b1 3) N 0 0)) (fa (b1 5) N 0)) (nI G)) (mal (b1 8) G 0 (-1) (-1))) (ca (itm N G 30 c 5) 3 N 0 0)) y) = some (.inr (mt N G b1 e N 0 (mx (mx (mx (mx (mx (mx (mx (mx (mx (mx (mx (mx (mx 2131 (b1 0 0)) (nI N)) (ca (b1 5) 0 N 0 0)) (ca (b1 5) 3 N 0 0)) (ca (b1 5) 4 N 0 0)) (b1 0 1)) (b1 0 2)) (la (b1 5) (b1 3) N 0 0)) (fa (b1 5) N 0)) (nI G)) (mal (b1 8) G 0 (-1) (-1))) (ca (itm N G 30 c 5) 3 N 0 0)) y), d3)) := by
      unfold X1_mixTravellers
      rw [b3, bd1_some, show X0_goOn e 100 = some d3 from f1, bd1_some]
      exact M1
    have m2 : X1_mixGuards b1 d3 (mt N G b1 e N 0 (mx (mx (mx (mx (mx (mx (mx (mx (mx (mx (mx (mx (mx 2131 (b1 0 0)) (nI N)) (ca (b1 5) 0 N 0 0)) (ca (b1 5) 3 N 0 0)) (ca (b1 5) 4 N 0 0)) (b1 0 1)) (b1 0 2)) (la (b1 5) (b1 3) N 0 0)) (fa (b1 5) N 0)) (nI G)) (mal (b1 8) G 0 (-1) (-1))) (ca (itm N G 30 c 5) 3 N 0 0)) y)) = some (.inr (mg b1 G 0 (mt N G b1 e N 0 (mx (mx (mx (mx (mx (mx (mx (mx (mx (mx (mx (mx (mx 2131 (b1 0 0)) (nI N)) (ca (b1 5) 0 N 0 0)) (ca (b1 5) 3 N 0 0)) (ca (b1 5) 4 N 0 0)) (b1 0 1)) (b1 0 2)) (la (b1 5) (b1 3) N 0 0)) (fa (b1 5) N 0)) (nI G)) (mal (b1 8) G 0 (-1) (-1))) (ca (itm N G 30 c 5) 3 N 0 0)) y)))) := M2
    unfold X1_digest X1_minute X1_travellers X1_waiting X1_asleep X1_sentBack X1_expired X1_paid X1_noise X1_nextInLine X1_guards
    rw [bd1_some, mix_e, bd1_some, bd1_some, mix_e, bd1_some, countIn_e v.1, bd1_some, bd1_some, mix_e, bd1_some, countIn_e v.1, bd1_some, bd1_some, mix_e, bd1_some, countIn_e v.1, bd1_some, bd1_some, mix_e, bd1_some, bd1_some, mix_e, bd1_some, bd1_some, mix_e, bd1_some, snores_e v.1, bd1_some, bd1_some, mix_e, bd1_some, first_e v.1, bd1_some, bd1_some, mix_e, bd1_some, bd1_some, mix_e, bd1_some, mostAlert_e v.1, bd1_some, mix_e, bd1_some, show X1_asleepIn b1 b2 30 = _ from a1, bx2_r, mix_e, bd1_some, g1, bd2_some, mix_e, bd1_some, v.1.2.2.1, v.1.2.2.2, m1, bz2_r, m2, bz1_r]
  have E2 : X2_digest w = some (mg b1 G 0 (mt N G b1 e N 0 (mx (mx (mx (mx (mx (mx (mx (mx (mx (mx (mx (mx (mx 2131 (b1 0 0)) (nI N)) (ca (b1 5) 0 N 0 0)) (ca (b1 5) 3 N 0 0)) (ca (b1 5) 4 N 0 0)) (b1 0 1)) (b1 0 2)) (la (b1 5) (b1 3) N 0 0)) (fa (b1 5) N 0)) (nI G)) (mal (b1 8) G 0 (-1) (-1))) (ca (itm N G 30 c 5) 3 N 0 0)) y)), w3) := by
    unfold X2_digest
    rw [bd1_some, ld3_0, bd1_some, sf13_0, bd1_some, sf13_1, bd1_some, count_m r0 hN, bd1_some, sf13_2, bd1_some, count_m r0 hN, bd1_some, sf13_3, bd1_some, count_m r0 hN, bd1_some, sf13_4, bd1_some, ld3_1, bd1_some, sf13_5, bd1_some, ld3_2, bd1_some, sf13_6, bd1_some, loud_m r0 hN, bd1_some, sf13_7, bd1_some, first_m r0 hN, bd1_some, sf13_8, bd1_some, ld3_3, bd1_some, sf13_9, bd1_some, alertest_e v r0, bd1_some, sf13_10, bd1_some, show X2_sleepers (up2 w 0 0 0) 30 = _ from s1, bd2_some, sf13_11, bd1_some, g2, bd2_some, sf13_12, bd1_some]
    rw [r0.1.1, r0.1.2.1, r0.1.2.2.1, r0.1.2.2.2.1, r0.1.2.2.2.2]
    refine (mix13_L 13 200 0 2131 (by omega) (by omega)).trans ?_
    rw [mxs13]
    exact t1.trans t3
  unfold L_law_C31
  rw [E1, bz2_r, E2, bd2_some, if_pos (lgc _)]
  exact hK _ _ _ _ ⟨N, G, hG, v, t2⟩
theorem stop_n {L i : Nat} (hL : L ≤ 2560) (hi : i ≤ 3000) : (nI L - 5 < nI i) ↔ L < i + 5 := by
  by_cases h : 5 ≤ L
  · have e : nI L - 5 = nI (L - 5) := by
      obtain ⟨k, rfl⟩ : ∃ k, L = k + 5 := ⟨L - 5, by omega⟩
      rw [← nI_add, show (5 : Int32) = nI 5 from rfl, Int32.add_sub_cancel, Nat.add_sub_cancel]
    rw [e, nI_ltI (by omega) (by omega)]
    omega
  · refine ⟨fun _ => by omega, fun _ => ?_⟩
    have e : (nI L - 5).toInt = (L : Int) - 5 := by
      match L, h with
      | 0, _ => decide
      | 1, _ => decide
      | 2, _ => decide
      | 3, _ => decide
      | 4, _ => decide
      | L + 5, h => omega
    rw [Int32.lt_iff_toInt_lt, e, nI_toInt (by omega)]
    omega
theorem and31 (x : Int32) : ∃ k, k < 32 ∧ x &&& 31 = nI k := pk_andE x 5 (by decide)
theorem law_L (xs : Nat → Int32) (L : Nat) (hL : L ≤ 2560) : ∀ (n i : Nat) (b1 b2 : S2) (o : Nat → Int64) (w : S2), LI b1 w → i ≤ 2565 → L < i + 5 * (n + 1) → L_law_L23 xs L (n + 1) (nI i) b1 b2 o w = some 1 := by
  intro n
  induction n with
  | zero =>
    intro i b1 b2 o w hI hi hn
    rw [L_law_L23, if_pos ((stop_n hL (by omega)).mpr (by omega))]
  | succ n ih =>
    intro i b1 b2 o w hI hi hn
    rw [L_law_L23]
    by_cases hs : L < i + 5
    · rw [if_pos ((stop_n hL (by omega)).mpr hs)]
    rw [if_neg (fun z => hs ((stop_n hL (by omega)).mp z)), ldA_n (show i < L by omega) (by omega), bd1_some]
    have hK : KH (fun b1 b2 o w => L_law_L23 xs L (n + 1) (nI i + 5) b1 b2 o w) := by
      intro b1 b2 o w h
      show L_law_L23 xs L (n + 1) (nI i + nI 5) b1 b2 o w = some 1
      rw [nI_add]
      exact ih (i + 5) b1 b2 o w h (by omega) (by omega)
    have h1 : ldA xs L (nI i + 1) = some (xs (i + 1)) := by
      rw [show (1 : Int32) = nI 1 from rfl, nI_add]; exact ldA_n (by omega) (by omega)
    have h2 : ldA xs L (nI i + 2) = some (xs (i + 2)) := by
      rw [show (2 : Int32) = nI 2 from rfl, nI_add]; exact ldA_n (by omega) (by omega)
    have h3 : ldA xs L (nI i + 3) = some (xs (i + 3)) := by
      rw [show (3 : Int32) = nI 3 from rfl, nI_add]; exact ldA_n (by omega) (by omega)
    have h4 : ldA xs L (nI i + 4) = some (xs (i + 4)) := by
      rw [show (4 : Int32) = nI 4 from rfl, nI_add]; exact ldA_n (by omega) (by omega)
    by_cases q0 : (xs i &&& 31) = 0
    · rw [if_pos q0]; exact c0 hK hI
    rw [if_neg q0]
    by_cases q1 : (xs i &&& 31) = 1
    · rw [if_pos q1]; exact c1 hK hI h1 h2 h3 h4
    rw [if_neg q1]
    by_cases q2 : (xs i &&& 31) = 2
    · rw [if_pos q2]; exact c2 hK hI h1 h2
    rw [if_neg q2]
    by_cases q3 : (xs i &&& 31) = 3
    · rw [if_pos q3]; exact c3 hK hI h1 h2
    rw [if_neg q3]
    by_cases q4 : (xs i &&& 31) = 4
    · rw [if_pos q4]; exact c4 hK hI h1
    rw [if_neg q4]
    by_cases q5 : (xs i &&& 31) = 5
    · rw [if_pos q5]; exact c5 hK hI h1
    rw [if_neg q5]
    by_cases q6 : (xs i &&& 31) = 6
    · rw [if_pos q6]; exact c6 hK hI
    rw [if_neg q6]
    by_cases q7 : (xs i &&& 31) = 7
    · rw [if_pos q7]; exact c7 hK hI
    rw [if_neg q7]
    by_cases q8 : (xs i &&& 31) = 8
    · rw [if_pos q8]; exact c8 hK hI
    rw [if_neg q8]
    by_cases q9 : (xs i &&& 31) = 9
    · rw [if_pos q9]; exact c9 hK hI
    rw [if_neg q9]
    by_cases q10 : (xs i &&& 31) = 10
    · rw [if_pos q10]; exact c10 hK hI
    rw [if_neg q10]
    by_cases q11 : (xs i &&& 31) = 11
    · rw [if_pos q11]; exact c11 hK hI
    rw [if_neg q11]
    by_cases q12 : (xs i &&& 31) = 12
    · rw [if_pos q12]; exact c12 hK hI
    rw [if_neg q12]
    by_cases q13 : (xs i &&& 31) = 13
    · rw [if_pos q13]; exact c13 hK hI
    rw [if_neg q13]
    by_cases q14 : (xs i &&& 31) = 14
    · rw [if_pos q14]; exact c14 hK hI
    rw [if_neg q14]
    by_cases q15 : (xs i &&& 31) = 15
    · rw [if_pos q15]; exact c15 hK hI h1
    rw [if_neg q15]
    by_cases q16 : (xs i &&& 31) = 16
    · rw [if_pos q16]; exact c16 hK hI h1
    rw [if_neg q16]
    by_cases q17 : (xs i &&& 31) = 17
    · rw [if_pos q17]; exact c17 hK hI h1
    rw [if_neg q17]
    by_cases q18 : (xs i &&& 31) = 18
    · rw [if_pos q18]; exact c18 hK hI h1
    rw [if_neg q18]
    by_cases q19 : (xs i &&& 31) = 19
    · rw [if_pos q19]; exact c19 hK hI h1
    rw [if_neg q19]
    by_cases q20 : (xs i &&& 31) = 20
    · rw [if_pos q20]; exact c20 hK hI
    rw [if_neg q20]
    by_cases q21 : (xs i &&& 31) = 21
    · rw [if_pos q21]; exact c21 hK hI h1
    rw [if_neg q21]
    by_cases q22 : (xs i &&& 31) = 22
    · rw [if_pos q22]; exact c22 hK hI h1
    rw [if_neg q22]
    by_cases q23 : (xs i &&& 31) = 23
    · rw [if_pos q23]; exact c23 hK hI h1
    rw [if_neg q23]
    by_cases q24 : (xs i &&& 31) = 24
    · rw [if_pos q24]; exact c24 hK hI h1 h2
    rw [if_neg q24]
    by_cases q25 : (xs i &&& 31) = 25
    · rw [if_pos q25]; exact c25 hK hI
    rw [if_neg q25]
    by_cases q26 : (xs i &&& 31) = 26
    · rw [if_pos q26]; exact c26 hK hI h1
    rw [if_neg q26]
    by_cases q27 : (xs i &&& 31) = 27
    · rw [if_pos q27]; exact c27 hK hI h1
    rw [if_neg q27]
    by_cases q28 : (xs i &&& 31) = 28
    · rw [if_pos q28]; exact c28 hK hI h1
    rw [if_neg q28]
    by_cases q29 : (xs i &&& 31) = 29
    · rw [if_pos q29]; exact c29 hK hI
    rw [if_neg q29]
    by_cases q30 : (xs i &&& 31) = 30
    · rw [if_pos q30]; exact c30 hK hI
    rw [if_neg q30]
    by_cases q31 : (xs i &&& 31) = 31
    · rw [if_pos q31]; exact c31 hK hI
    rw [if_neg q31]
    obtain ⟨k, hk, e⟩ := and31 (xs i)
    exfalso
    match k, hk, e with
    | 0, _, e => exact q0 e
    | 1, _, e => exact q1 e
    | 2, _, e => exact q2 e
    | 3, _, e => exact q3 e
    | 4, _, e => exact q4 e
    | 5, _, e => exact q5 e
    | 6, _, e => exact q6 e
    | 7, _, e => exact q7 e
    | 8, _, e => exact q8 e
    | 9, _, e => exact q9 e
    | 10, _, e => exact q10 e
    | 11, _, e => exact q11 e
    | 12, _, e => exact q12 e
    | 13, _, e => exact q13 e
    | 14, _, e => exact q14 e
    | 15, _, e => exact q15 e
    | 16, _, e => exact q16 e
    | 17, _, e => exact q17 e
    | 18, _, e => exact q18 e
    | 19, _, e => exact q19 e
    | 20, _, e => exact q20 e
    | 21, _, e => exact q21 e
    | 22, _, e => exact q22 e
    | 23, _, e => exact q23 e
    | 24, _, e => exact q24 e
    | 25, _, e => exact q25 e
    | 26, _, e => exact q26 e
    | 27, _, e => exact q27 e
    | 28, _, e => exact q28 e
    | 29, _, e => exact q29 e
    | 30, _, e => exact q30 e
    | 31, _, e => exact q31 e
    | k + 32, hk, _ => omega
theorem LI_0 : LI zS zS := by
  refine ⟨0, 0, by omega, ⟨⟨by omega, by omega, rfl, rfl⟩, ⟨fun g hg => absurd hg (by omega), fun g g' t hg => absurd hg (by omega)⟩, fun t ht => absurd ht (by omega)⟩, ⟨rfl, rfl, rfl, rfl, rfl⟩, fun g hg => absurd hg (by omega), fun t ht => absurd ht (by omega), fun t _ _ => rfl⟩
theorem pure_law (xs : Nat → Int32) (L : Nat) (hL : L ≤ 2560) : L_law_L23 xs L 513 0 zS zS (fun _ => 0) zS = some 1 := law_L xs L hL 512 0 zS zS (fun _ => 0) zS LI_0 (by omega) (by omega)
