/-! PURE 4: the reference's row of numbers against the class's border: reads, writes, what stays alike -/
def RM (N G : Nat) (w b : S2) : Prop :=
  (w 0 1 = nI N ∧ w 3 0 = b 0 0 ∧ w 3 1 = b 0 1 ∧ w 3 2 = b 0 2 ∧ w 3 3 = nI G) ∧
  (∀ g, g < G → w 3 (4 + 3 * g) = b 8 g ∧ w 3 (5 + 3 * g) = b 9 g ∧ w 3 (6 + 3 * g) = b 10 g) ∧
  (∀ t, t < N → w 1 t = b 1 t ∧ w 2 t = b 3 t ∧ w 3 (28 + 4 * t) = b 5 t ∧ w 3 (29 + 4 * t) = b 4 t ∧ w 3 (30 + 4 * t) = b 2 t ∧ (b 5 t = 2 → w 3 (31 + 4 * t) = b 6 t)) ∧
  (∀ t, N ≤ t → t < 24 → w 3 (28 + 4 * t) = 0)
/-- all but the row itself stays -/
def fr (w w' : S2) : Prop := w' 0 = w 0 ∧ w' 1 = w 1 ∧ w' 2 = w 2 ∧ w' 4 = w 4 ∧ w' 5 = w 5
theorem fr_rf (w : S2) : fr w w := ⟨rfl, rfl, rfl, rfl, rfl⟩
theorem fr_tr {a b c : S2} (h : fr a b) (g : fr b c) : fr a c := ⟨g.1.trans h.1, g.2.1.trans h.2.1, g.2.2.1.trans h.2.2.1, g.2.2.2.1.trans h.2.2.2.1, g.2.2.2.2.trans h.2.2.2.2⟩
theorem fr_up (w : S2) (j : Nat) (v : Int32) : fr w (up2 w 3 j v) := ⟨up2_c (by omega), up2_c (by omega), up2_c (by omega), up2_c (by omega), up2_c (by omega)⟩
theorem fr_u {a w : S2} (h : fr a w) (j : Nat) (v : Int32) : fr a (up2 w 3 j v) := fr_tr h (fr_up w j v)
theorem ix4 (t j : Nat) : (28 + 4 * nI t) + nI j = nI (28 + 4 * t + j) := by
  rw [show (28 : Int32) = nI 28 from rfl, show (4 : Int32) = nI 4 from rfl, pk_mul, nI_add, nI_add]
theorem ix3 (g j : Nat) : (4 + 3 * nI g) + nI j = nI (4 + 3 * g + j) := by
  rw [show (4 : Int32) = nI 4 from rfl, show (3 : Int32) = nI 3 from rfl, pk_mul, nI_add, nI_add]
theorem tr0 {w : S2} {t : Nat} (ht : t < 24) : X2_tr w (nI t) 0 = some (w 3 (28 + 4 * t)) := by
  unfold X2_tr
  rw [show (0 : Int32) = nI 0 from rfl, ix4, show 28 + 4 * t + 0 = 28 + 4 * t by omega, ldA_n (by omega) (by omega), bd1_some]
theorem let0 {w : S2} {t : Nat} {v : Int32} (ht : t < 24) : X2_let w (nI t) 0 v = some (up2 w 3 (28 + 4 * t) v) := by
  unfold X2_let
  rw [show (0 : Int32) = nI 0 from rfl, ix4, show 28 + 4 * t + 0 = 28 + 4 * t by omega, stA_n (by omega) (by omega), bd1_some]
theorem tr1 {w : S2} {t : Nat} (ht : t < 24) : X2_tr w (nI t) 1 = some (w 3 (29 + 4 * t)) := by
  unfold X2_tr
  rw [show (1 : Int32) = nI 1 from rfl, ix4, show 28 + 4 * t + 1 = 29 + 4 * t by omega, ldA_n (by omega) (by omega), bd1_some]
theorem let1 {w : S2} {t : Nat} {v : Int32} (ht : t < 24) : X2_let w (nI t) 1 v = some (up2 w 3 (29 + 4 * t) v) := by
  unfold X2_let
  rw [show (1 : Int32) = nI 1 from rfl, ix4, show 28 + 4 * t + 1 = 29 + 4 * t by omega, stA_n (by omega) (by omega), bd1_some]
theorem tr2 {w : S2} {t : Nat} (ht : t < 24) : X2_tr w (nI t) 2 = some (w 3 (30 + 4 * t)) := by
  unfold X2_tr
  rw [show (2 : Int32) = nI 2 from rfl, ix4, show 28 + 4 * t + 2 = 30 + 4 * t by omega, ldA_n (by omega) (by omega), bd1_some]
theorem let2 {w : S2} {t : Nat} {v : Int32} (ht : t < 24) : X2_let w (nI t) 2 v = some (up2 w 3 (30 + 4 * t) v) := by
  unfold X2_let
  rw [show (2 : Int32) = nI 2 from rfl, ix4, show 28 + 4 * t + 2 = 30 + 4 * t by omega, stA_n (by omega) (by omega), bd1_some]
theorem tr3 {w : S2} {t : Nat} (ht : t < 24) : X2_tr w (nI t) 3 = some (w 3 (31 + 4 * t)) := by
  unfold X2_tr
  rw [show (3 : Int32) = nI 3 from rfl, ix4, show 28 + 4 * t + 3 = 31 + 4 * t by omega, ldA_n (by omega) (by omega), bd1_some]
theorem let3 {w : S2} {t : Nat} {v : Int32} (ht : t < 24) : X2_let w (nI t) 3 v = some (up2 w 3 (31 + 4 * t) v) := by
  unfold X2_let
  rw [show (3 : Int32) = nI 3 from rfl, ix4, show 28 + 4 * t + 3 = 31 + 4 * t by omega, stA_n (by omega) (by omega), bd1_some]
theorem gu0 {w : S2} {g : Nat} (hg : g < 8) : X2_gu w (nI g) 0 = some (w 3 (4 + 3 * g)) := by
  unfold X2_gu
  rw [show (0 : Int32) = nI 0 from rfl, ix3, show 4 + 3 * g + 0 = 4 + 3 * g by omega, ldA_n (by omega) (by omega), bd1_some]
theorem post0 {w : S2} {g : Nat} {v : Int32} (hg : g < 8) : X2_post w (nI g) 0 v = some (up2 w 3 (4 + 3 * g) v) := by
  unfold X2_post
  rw [show (0 : Int32) = nI 0 from rfl, ix3, show 4 + 3 * g + 0 = 4 + 3 * g by omega, stA_n (by omega) (by omega), bd1_some]
theorem gu1 {w : S2} {g : Nat} (hg : g < 8) : X2_gu w (nI g) 1 = some (w 3 (5 + 3 * g)) := by
  unfold X2_gu
  rw [show (1 : Int32) = nI 1 from rfl, ix3, show 4 + 3 * g + 1 = 5 + 3 * g by omega, ldA_n (by omega) (by omega), bd1_some]
theorem post1 {w : S2} {g : Nat} {v : Int32} (hg : g < 8) : X2_post w (nI g) 1 v = some (up2 w 3 (5 + 3 * g) v) := by
  unfold X2_post
  rw [show (1 : Int32) = nI 1 from rfl, ix3, show 4 + 3 * g + 1 = 5 + 3 * g by omega, stA_n (by omega) (by omega), bd1_some]
theorem gu2 {w : S2} {g : Nat} (hg : g < 8) : X2_gu w (nI g) 2 = some (w 3 (6 + 3 * g)) := by
  unfold X2_gu
  rw [show (2 : Int32) = nI 2 from rfl, ix3, show 4 + 3 * g + 2 = 6 + 3 * g by omega, ldA_n (by omega) (by omega), bd1_some]
theorem post2 {w : S2} {g : Nat} {v : Int32} (hg : g < 8) : X2_post w (nI g) 2 v = some (up2 w 3 (6 + 3 * g) v) := by
  unfold X2_post
  rw [show (2 : Int32) = nI 2 from rfl, ix3, show 4 + 3 * g + 2 = 6 + 3 * g by omega, stA_n (by omega) (by omega), bd1_some]
theorem ld3_0 (w : S2) : ldA (w 3) 124 0 = some (w 3 0) := ldA_n (k := 0) (by omega) (by omega)
theorem st3_0 (w : S2) (v : Int32) : stA w 3 124 0 v = some (up2 w 3 0 v) := stA_n (k := 0) (by omega) (by omega)
theorem ld3_1 (w : S2) : ldA (w 3) 124 1 = some (w 3 1) := ldA_n (k := 1) (by omega) (by omega)
theorem st3_1 (w : S2) (v : Int32) : stA w 3 124 1 v = some (up2 w 3 1 v) := stA_n (k := 1) (by omega) (by omega)
theorem ld3_2 (w : S2) : ldA (w 3) 124 2 = some (w 3 2) := ldA_n (k := 2) (by omega) (by omega)
theorem st3_2 (w : S2) (v : Int32) : stA w 3 124 2 v = some (up2 w 3 2 v) := stA_n (k := 2) (by omega) (by omega)
theorem ld3_3 (w : S2) : ldA (w 3) 124 3 = some (w 3 3) := ldA_n (k := 3) (by omega) (by omega)
theorem st3_3 (w : S2) (v : Int32) : stA w 3 124 3 v = some (up2 w 3 3 v) := stA_n (k := 3) (by omega) (by omega)
theorem RM_st {N G : Nat} {w b : S2} (h : RM N G w b) (hN : N ≤ 24) (hG : G ≤ 8) {t : Nat} (tN : t < N) {v : Int32} (hv : v = 2 → w 3 (31 + 4 * t) = b 6 t) : RM N G (up2 w 3 (28 + 4 * t) v) (up2 b 5 t v) := by
  obtain ⟨⟨s1, s2, s3, s4, s5⟩, hg, ht, hz⟩ := h
  refine ⟨⟨?_, ?_, ?_, ?_, ?_⟩, fun x hx => ?_, fun x hx => ?_, fun x z1 z2 => ?_⟩
  · (try simp (disch := omega) only [up2_e, up2_n]) <;> exact s1
  · (try simp (disch := omega) only [up2_e, up2_n]) <;> exact s2
  · (try simp (disch := omega) only [up2_e, up2_n]) <;> exact s3
  · (try simp (disch := omega) only [up2_e, up2_n]) <;> exact s4
  · (try simp (disch := omega) only [up2_e, up2_n]) <;> exact s5
  · simp (disch := omega) only [up2_e, up2_n]; exact hg x hx
  · have q := ht x hx
    by_cases e : x = t
    · subst e
      simp (disch := omega) only [up2_e, up2_n]; exact ⟨q.1, q.2.1, trivial, q.2.2.2.1, q.2.2.2.2.1, hv⟩
    · simp (disch := omega) only [up2_e, up2_n]; exact q
  · (try simp (disch := omega) only [up2_e, up2_n]) <;> exact hz x z1 z2
theorem RM_lu {N G : Nat} {w b : S2} (h : RM N G w b) (hN : N ≤ 24) (hG : G ≤ 8) {t : Nat} (tN : t < N) {v : Int32} : RM N G (up2 w 3 (29 + 4 * t) v) (up2 b 4 t v) := by
  obtain ⟨⟨s1, s2, s3, s4, s5⟩, hg, ht, hz⟩ := h
  refine ⟨⟨?_, ?_, ?_, ?_, ?_⟩, fun x hx => ?_, fun x hx => ?_, fun x z1 z2 => ?_⟩
  · (try simp (disch := omega) only [up2_e, up2_n]) <;> exact s1
  · (try simp (disch := omega) only [up2_e, up2_n]) <;> exact s2
  · (try simp (disch := omega) only [up2_e, up2_n]) <;> exact s3
  · (try simp (disch := omega) only [up2_e, up2_n]) <;> exact s4
  · (try simp (disch := omega) only [up2_e, up2_n]) <;> exact s5
  · simp (disch := omega) only [up2_e, up2_n]; exact hg x hx
  · have q := ht x hx
    by_cases e : x = t
    · subst e
      simp (disch := omega) only [up2_e, up2_n]; exact ⟨q.1, q.2.1, q.2.2.1, trivial, q.2.2.2.2⟩
    · simp (disch := omega) only [up2_e, up2_n]; exact q
  · (try simp (disch := omega) only [up2_e, up2_n]) <;> exact hz x z1 z2
theorem RM_to {N G : Nat} {w b : S2} (h : RM N G w b) (hN : N ≤ 24) (hG : G ≤ 8) {t : Nat} (tN : t < N) {v : Int32} : RM N G (up2 w 3 (30 + 4 * t) v) (up2 b 2 t v) := by
  obtain ⟨⟨s1, s2, s3, s4, s5⟩, hg, ht, hz⟩ := h
  refine ⟨⟨?_, ?_, ?_, ?_, ?_⟩, fun x hx => ?_, fun x hx => ?_, fun x z1 z2 => ?_⟩
  · (try simp (disch := omega) only [up2_e, up2_n]) <;> exact s1
  · (try simp (disch := omega) only [up2_e, up2_n]) <;> exact s2
  · (try simp (disch := omega) only [up2_e, up2_n]) <;> exact s3
  · (try simp (disch := omega) only [up2_e, up2_n]) <;> exact s4
  · (try simp (disch := omega) only [up2_e, up2_n]) <;> exact s5
  · simp (disch := omega) only [up2_e, up2_n]; exact hg x hx
  · have q := ht x hx
    by_cases e : x = t
    · subst e
      simp (disch := omega) only [up2_e, up2_n]; exact ⟨q.1, q.2.1, q.2.2.1, q.2.2.2.1, trivial, q.2.2.2.2.2⟩
    · simp (disch := omega) only [up2_e, up2_n]; exact q
  · (try simp (disch := omega) only [up2_e, up2_n]) <;> exact hz x z1 z2
theorem RM_go {N G : Nat} {w b : S2} (h : RM N G w b) (hN : N ≤ 24) (hG : G ≤ 8) {t : Nat} (tN : t < N) {v : Int32} : RM N G (up2 w 3 (31 + 4 * t) v) (up2 b 6 t v) := by
  obtain ⟨⟨s1, s2, s3, s4, s5⟩, hg, ht, hz⟩ := h
  refine ⟨⟨?_, ?_, ?_, ?_, ?_⟩, fun x hx => ?_, fun x hx => ?_, fun x z1 z2 => ?_⟩
  · (try simp (disch := omega) only [up2_e, up2_n]) <;> exact s1
  · (try simp (disch := omega) only [up2_e, up2_n]) <;> exact s2
  · (try simp (disch := omega) only [up2_e, up2_n]) <;> exact s3
  · (try simp (disch := omega) only [up2_e, up2_n]) <;> exact s4
  · (try simp (disch := omega) only [up2_e, up2_n]) <;> exact s5
  · simp (disch := omega) only [up2_e, up2_n]; exact hg x hx
  · have q := ht x hx
    by_cases e : x = t
    · subst e
      simp (disch := omega) only [up2_e, up2_n]; exact ⟨q.1, q.2.1, q.2.2.1, q.2.2.2.1, q.2.2.2.2.1, fun _ => trivial⟩
    · simp (disch := omega) only [up2_e, up2_n]; exact q
  · (try simp (disch := omega) only [up2_e, up2_n]) <;> exact hz x z1 z2
theorem RM_gx {N G : Nat} {w b : S2} (h : RM N G w b) (hN : N ≤ 24) (hG : G ≤ 8) {t : Nat} (tN : t < N) {v : Int32} (h5 : b 5 t ≠ 2) : RM N G (up2 w 3 (31 + 4 * t) v) (b) := by
  obtain ⟨⟨s1, s2, s3, s4, s5⟩, hg, ht, hz⟩ := h
  refine ⟨⟨?_, ?_, ?_, ?_, ?_⟩, fun x hx => ?_, fun x hx => ?_, fun x z1 z2 => ?_⟩
  · (try simp (disch := omega) only [up2_e, up2_n]) <;> exact s1
  · (try simp (disch := omega) only [up2_e, up2_n]) <;> exact s2
  · (try simp (disch := omega) only [up2_e, up2_n]) <;> exact s3
  · (try simp (disch := omega) only [up2_e, up2_n]) <;> exact s4
  · (try simp (disch := omega) only [up2_e, up2_n]) <;> exact s5
  · simp (disch := omega) only [up2_e, up2_n]; exact hg x hx
  · have q := ht x hx
    by_cases e : x = t
    · subst e
      simp (disch := omega) only [up2_e, up2_n]; exact ⟨q.1, q.2.1, q.2.2.1, q.2.2.2.1, q.2.2.2.2.1, fun h => absurd h h5⟩
    · simp (disch := omega) only [up2_e, up2_n]; exact q
  · (try simp (disch := omega) only [up2_e, up2_n]) <;> exact hz x z1 z2
theorem RM_sg {N G : Nat} {w b : S2} (h : RM N G w b) (hN : N ≤ 24) (hG : G ≤ 8) {t : Nat} (tN : t < N) {u : Int32} : RM N G (up2 (up2 w 3 (28 + 4 * t) 2) 3 (31 + 4 * t) u) (up2 (up2 b 5 t 2) 6 t u) := by
  obtain ⟨⟨s1, s2, s3, s4, s5⟩, hg, ht, hz⟩ := h
  refine ⟨⟨?_, ?_, ?_, ?_, ?_⟩, fun x hx => ?_, fun x hx => ?_, fun x z1 z2 => ?_⟩
  · (try simp (disch := omega) only [up2_e, up2_n]) <;> exact s1
  · (try simp (disch := omega) only [up2_e, up2_n]) <;> exact s2
  · (try simp (disch := omega) only [up2_e, up2_n]) <;> exact s3
  · (try simp (disch := omega) only [up2_e, up2_n]) <;> exact s4
  · (try simp (disch := omega) only [up2_e, up2_n]) <;> exact s5
  · simp (disch := omega) only [up2_e, up2_n]; exact hg x hx
  · have q := ht x hx
    by_cases e : x = t
    · subst e
      simp (disch := omega) only [up2_e, up2_n]; exact ⟨q.1, q.2.1, trivial, q.2.2.2.1, q.2.2.2.2.1, fun _ => trivial⟩
    · simp (disch := omega) only [up2_e, up2_n]; exact q
  · (try simp (disch := omega) only [up2_e, up2_n]) <;> exact hz x z1 z2
theorem RM_si {N G : Nat} {w b : S2} (h : RM N G w b) (hN : N ≤ 24) (hG : G ≤ 8) {t : Nat} {v : Int32} : RM N G (w) (up2 b 7 t v) := by
  obtain ⟨⟨s1, s2, s3, s4, s5⟩, hg, ht, hz⟩ := h
  refine ⟨⟨?_, ?_, ?_, ?_, ?_⟩, fun x hx => ?_, fun x hx => ?_, fun x z1 z2 => ?_⟩
  · (try simp (disch := omega) only [up2_e, up2_n]) <;> exact s1
  · (try simp (disch := omega) only [up2_e, up2_n]) <;> exact s2
  · (try simp (disch := omega) only [up2_e, up2_n]) <;> exact s3
  · (try simp (disch := omega) only [up2_e, up2_n]) <;> exact s4
  · (try simp (disch := omega) only [up2_e, up2_n]) <;> exact s5
  · simp (disch := omega) only [up2_e, up2_n]; exact hg x hx
  · simp (disch := omega) only [up2_e, up2_n]; exact ht x hx
  · (try simp (disch := omega) only [up2_e, up2_n]) <;> exact hz x z1 z2
theorem RM_al {N G : Nat} {w b : S2} (h : RM N G w b) (hN : N ≤ 24) (hG : G ≤ 8) {g : Nat} (gG : g < G) {v : Int32} : RM N G (up2 w 3 (4 + 3 * g) v) (up2 b 8 g v) := by
  obtain ⟨⟨s1, s2, s3, s4, s5⟩, hg, ht, hz⟩ := h
  refine ⟨⟨?_, ?_, ?_, ?_, ?_⟩, fun x hx => ?_, fun x hx => ?_, fun x z1 z2 => ?_⟩
  · (try simp (disch := omega) only [up2_e, up2_n]) <;> exact s1
  · (try simp (disch := omega) only [up2_e, up2_n]) <;> exact s2
  · (try simp (disch := omega) only [up2_e, up2_n]) <;> exact s3
  · (try simp (disch := omega) only [up2_e, up2_n]) <;> exact s4
  · (try simp (disch := omega) only [up2_e, up2_n]) <;> exact s5
  · have q := hg x hx
    by_cases e : x = g
    · subst e
      simp (disch := omega) only [up2_e, up2_n]; exact ⟨trivial, q.2⟩
    · simp (disch := omega) only [up2_e, up2_n]; exact q
  · simp (disch := omega) only [up2_e, up2_n]; exact ht x hx
  · (try simp (disch := omega) only [up2_e, up2_n]) <;> exact hz x z1 z2
theorem RM_wh {N G : Nat} {w b : S2} (h : RM N G w b) (hN : N ≤ 24) (hG : G ≤ 8) {g : Nat} (gG : g < G) {v : Int32} : RM N G (up2 w 3 (5 + 3 * g) v) (up2 b 9 g v) := by
  obtain ⟨⟨s1, s2, s3, s4, s5⟩, hg, ht, hz⟩ := h
  refine ⟨⟨?_, ?_, ?_, ?_, ?_⟩, fun x hx => ?_, fun x hx => ?_, fun x z1 z2 => ?_⟩
  · (try simp (disch := omega) only [up2_e, up2_n]) <;> exact s1
  · (try simp (disch := omega) only [up2_e, up2_n]) <;> exact s2
  · (try simp (disch := omega) only [up2_e, up2_n]) <;> exact s3
  · (try simp (disch := omega) only [up2_e, up2_n]) <;> exact s4
  · (try simp (disch := omega) only [up2_e, up2_n]) <;> exact s5
  · have q := hg x hx
    by_cases e : x = g
    · subst e
      simp (disch := omega) only [up2_e, up2_n]; exact ⟨q.1, trivial, q.2.2⟩
    · simp (disch := omega) only [up2_e, up2_n]; exact q
  · simp (disch := omega) only [up2_e, up2_n]; exact ht x hx
  · (try simp (disch := omega) only [up2_e, up2_n]) <;> exact hz x z1 z2
theorem RM_le {N G : Nat} {w b : S2} (h : RM N G w b) (hN : N ≤ 24) (hG : G ≤ 8) {g : Nat} (gG : g < G) {v : Int32} : RM N G (up2 w 3 (6 + 3 * g) v) (up2 b 10 g v) := by
  obtain ⟨⟨s1, s2, s3, s4, s5⟩, hg, ht, hz⟩ := h
  refine ⟨⟨?_, ?_, ?_, ?_, ?_⟩, fun x hx => ?_, fun x hx => ?_, fun x z1 z2 => ?_⟩
  · (try simp (disch := omega) only [up2_e, up2_n]) <;> exact s1
  · (try simp (disch := omega) only [up2_e, up2_n]) <;> exact s2
  · (try simp (disch := omega) only [up2_e, up2_n]) <;> exact s3
  · (try simp (disch := omega) only [up2_e, up2_n]) <;> exact s4
  · (try simp (disch := omega) only [up2_e, up2_n]) <;> exact s5
  · have q := hg x hx
    by_cases e : x = g
    · subst e
      simp (disch := omega) only [up2_e, up2_n]; exact ⟨q.1, q.2.1, trivial⟩
    · simp (disch := omega) only [up2_e, up2_n]; exact q
  · simp (disch := omega) only [up2_e, up2_n]; exact ht x hx
  · (try simp (disch := omega) only [up2_e, up2_n]) <;> exact hz x z1 z2
theorem RM_ck {N G : Nat} {w b : S2} (h : RM N G w b) (hN : N ≤ 24) (hG : G ≤ 8) {v : Int32} : RM N G (up2 w 3 0 v) (up2 b 0 0 v) := by
  obtain ⟨⟨s1, s2, s3, s4, s5⟩, hg, ht, hz⟩ := h
  refine ⟨⟨?_, ?_, ?_, ?_, ?_⟩, fun x hx => ?_, fun x hx => ?_, fun x z1 z2 => ?_⟩
  · (try simp (disch := omega) only [up2_e, up2_n]) <;> exact s1
  · (try simp (disch := omega) only [up2_e, up2_n]) <;> exact s2
  · (try simp (disch := omega) only [up2_e, up2_n]) <;> exact s3
  · (try simp (disch := omega) only [up2_e, up2_n]) <;> exact s4
  · (try simp (disch := omega) only [up2_e, up2_n]) <;> exact s5
  · simp (disch := omega) only [up2_e, up2_n]; exact hg x hx
  · simp (disch := omega) only [up2_e, up2_n]; exact ht x hx
  · (try simp (disch := omega) only [up2_e, up2_n]) <;> exact hz x z1 z2
theorem RM_ex {N G : Nat} {w b : S2} (h : RM N G w b) (hN : N ≤ 24) (hG : G ≤ 8) {v : Int32} : RM N G (up2 w 3 1 v) (up2 b 0 1 v) := by
  obtain ⟨⟨s1, s2, s3, s4, s5⟩, hg, ht, hz⟩ := h
  refine ⟨⟨?_, ?_, ?_, ?_, ?_⟩, fun x hx => ?_, fun x hx => ?_, fun x z1 z2 => ?_⟩
  · (try simp (disch := omega) only [up2_e, up2_n]) <;> exact s1
  · (try simp (disch := omega) only [up2_e, up2_n]) <;> exact s2
  · (try simp (disch := omega) only [up2_e, up2_n]) <;> exact s3
  · (try simp (disch := omega) only [up2_e, up2_n]) <;> exact s4
  · (try simp (disch := omega) only [up2_e, up2_n]) <;> exact s5
  · simp (disch := omega) only [up2_e, up2_n]; exact hg x hx
  · simp (disch := omega) only [up2_e, up2_n]; exact ht x hx
  · (try simp (disch := omega) only [up2_e, up2_n]) <;> exact hz x z1 z2
theorem RM_pd {N G : Nat} {w b : S2} (h : RM N G w b) (hN : N ≤ 24) (hG : G ≤ 8) {v : Int32} : RM N G (up2 w 3 2 v) (up2 b 0 2 v) := by
  obtain ⟨⟨s1, s2, s3, s4, s5⟩, hg, ht, hz⟩ := h
  refine ⟨⟨?_, ?_, ?_, ?_, ?_⟩, fun x hx => ?_, fun x hx => ?_, fun x z1 z2 => ?_⟩
  · (try simp (disch := omega) only [up2_e, up2_n]) <;> exact s1
  · (try simp (disch := omega) only [up2_e, up2_n]) <;> exact s2
  · (try simp (disch := omega) only [up2_e, up2_n]) <;> exact s3
  · (try simp (disch := omega) only [up2_e, up2_n]) <;> exact s4
  · (try simp (disch := omega) only [up2_e, up2_n]) <;> exact s5
  · simp (disch := omega) only [up2_e, up2_n]; exact hg x hx
  · simp (disch := omega) only [up2_e, up2_n]; exact ht x hx
  · (try simp (disch := omega) only [up2_e, up2_n]) <;> exact hz x z1 z2
theorem RM_w {N G : Nat} {w w' b : S2} (h : RM N G w b) (hN : N ≤ 24) (hG : G ≤ 8) (h0 : w' 0 1 = w 0 1) (h1 : w' 1 = w 1) (h2 : w' 2 = w 2) (h3 : ∀ j, j < 124 → w' 3 j = w 3 j) : RM N G w' b := by
  obtain ⟨⟨s1, s2, s3, s4, s5⟩, hg, ht, hz⟩ := h
  refine ⟨⟨by rw [h0]; exact s1, by rw [h3 _ (by omega)]; exact s2, by rw [h3 _ (by omega)]; exact s3, by rw [h3 _ (by omega)]; exact s4, by rw [h3 _ (by omega)]; exact s5⟩, fun x hx => ?_, fun x hx => ?_, fun x z1 z2 => ?_⟩
  · rw [h3 _ (by omega), h3 _ (by omega), h3 _ (by omega)]; exact hg x hx
  · rw [h1, h2, h3 _ (by omega), h3 _ (by omega), h3 _ (by omega), h3 _ (by omega)]; exact ht x hx
  · rw [h3 _ (by omega)]; exact hz x z1 z2
theorem count_M {w : S2} {N : Nat} (hN : w 0 1 = nI N) (hN' : N ≤ 24) (k : Int32) : ∀ (m n t : Nat) (c : Int32), t + m = N → m < n → X2_count_L4 k w n c (nI t) = some (ca (fun t => w 3 (28 + 4 * t)) k m t c) := by
  intro m
  induction m with
  | zero =>
    intro n t c ht hn
    obtain ⟨n, rfl⟩ := pos_fuel hn
    rw [X2_count_L4, hN, if_pos (nI_le (by omega) (by omega))]
    rfl
  | succ m ih =>
    intro n t c ht hn
    obtain ⟨n, rfl⟩ := pos_fuel hn
    rw [X2_count_L4, hN, if_neg (nI_ge (by omega) (by omega)), tr0 (by omega), bd1_some]
    simp only [ca]
    by_cases h : w 3 (28 + 4 * t) = k
    · rw [if_pos h, if_pos h, nI_1]
      exact ih n (t + 1) (c + 1) (by omega) (by omega)
    · rw [if_neg h, if_neg h, nI_1, a0]
      exact ih n (t + 1) c (by omega) (by omega)
theorem RM_sts {N G : Nat} {w b : S2} (h : RM N G w b) (m t : Nat) (hm : t + m ≤ N) : ∀ i, t ≤ i → i < t + m → (fun t => w 3 (28 + 4 * t)) i = b 5 i := fun i h1 h2 => (h.2.2.1 i (by omega)).2.2.1
theorem count_m {N G : Nat} {w b : S2} (h : RM N G w b) (hN : N ≤ 24) (k : Int32) : X2_count w k = some (ca (b 5) k N 0 0) := by
  unfold X2_count
  rw [i0, count_M h.1.1 hN k N 200 0 (nI 0) (by omega) (by omega), ca_congr N 0 _ (RM_sts h N 0 (by omega))]
theorem loud_M {w : S2} {N : Nat} (hN : w 0 1 = nI N) (hN' : N ≤ 24) : ∀ (m n t : Nat) (c : Int32), t + m = N → m < n → X2_loud_L4 w n c (nI t) = some (la (fun t => w 3 (28 + 4 * t)) (w 2) m t c) := by
  intro m
  induction m with
  | zero =>
    intro n t c ht hn
    obtain ⟨n, rfl⟩ := pos_fuel hn
    rw [X2_loud_L4, hN, if_pos (nI_le (by omega) (by omega))]
    rfl
  | succ m ih =>
    intro n t c ht hn
    obtain ⟨n, rfl⟩ := pos_fuel hn
    rw [X2_loud_L4, hN, if_neg (nI_ge (by omega) (by omega)), tr0 (by omega), bd1_some]
    simp only [la]
    by_cases h : w 3 (28 + 4 * t) = 2
    · rw [if_pos h, if_pos h, ldA_n (by omega) (by omega), bd1_some, nI_1]
      exact ih n (t + 1) _ (by omega) (by omega)
    · rw [if_neg h, if_neg h, nI_1, a0]
      exact ih n (t + 1) c (by omega) (by omega)
theorem loud_m {N G : Nat} {w b : S2} (h : RM N G w b) (hN : N ≤ 24) : X2_loud w = some (la (b 5) (b 3) N 0 0) := by
  unfold X2_loud
  rw [i0, loud_M h.1.1 hN N 200 0 (nI 0) (by omega) (by omega), la_congr N 0 _ (fun i h1 h2 => ⟨(h.2.2.1 i (by omega)).2.2.1, (h.2.2.1 i (by omega)).2.1⟩)]
theorem first_M {w : S2} {N : Nat} (hN : w 0 1 = nI N) (hN' : N ≤ 24) : ∀ (m n t : Nat), t + m = N → m < n → X2_first_L2 w n (nI t) = some (fa (fun t => w 3 (28 + 4 * t)) m t) := by
  intro m
  induction m with
  | zero =>
    intro n t ht hn
    obtain ⟨n, rfl⟩ := pos_fuel hn
    rw [X2_first_L2, hN, if_pos (nI_le (by omega) (by omega))]
    rfl
  | succ m ih =>
    intro n t ht hn
    obtain ⟨n, rfl⟩ := pos_fuel hn
    rw [X2_first_L2, hN, if_neg (nI_ge (by omega) (by omega)), tr0 (by omega), bd1_some]
    simp only [fa]
    by_cases h : w 3 (28 + 4 * t) = 0
    · rw [if_pos h, if_pos h]
    · rw [if_neg h, if_neg h, nI_1]
      exact ih n (t + 1) (by omega) (by omega)
theorem first_m {N G : Nat} {w b : S2} (h : RM N G w b) (hN : N ≤ 24) : X2_first w = some (fa (b 5) N 0) := by
  unfold X2_first
  rw [i0, first_M h.1.1 hN N 200 0 (by omega) (by omega), fa_congr N 0 (RM_sts h N 0 (by omega))]
theorem hid_r (y : Int32) : (if 0 < y then y else 0) = (if y < 0 then 0 else y) := by
  by_cases h : 0 < y
  · rw [if_pos h, if_neg (by rw [Int32.lt_iff_toInt_lt] at h ⊢; omega)]
  · rw [if_neg h]
    by_cases g : y < 0
    · rw [if_pos g]
    · rw [if_neg g]
      have e : y.toInt = (0 : Int32).toInt := by rw [Int32.lt_iff_toInt_lt] at h g; omega
      exact (Int32.toInt_inj.mp e).symm
theorem mna_r (x : Int32) : (if x + 1 < 9 then x + 1 else 9) = mna x := by
  unfold mna
  by_cases h : 9 < x + 1
  · rw [if_pos h, if_neg (by rw [Int32.lt_iff_toInt_lt] at h ⊢; omega)]
  · rw [if_neg h]
    by_cases g : x + 1 < 9
    · rw [if_pos g]
    · rw [if_neg g]
      have e : (x + 1).toInt = (9 : Int32).toInt := by rw [Int32.lt_iff_toInt_lt] at h g; omega
      exact (Int32.toInt_inj.mp e).symm
theorem hidden_m {N G : Nat} {w b : S2} (h : RM N G w b) (hN : N ≤ 24) {t : Nat} (ht : t < N) : X2_hidden w (nI t) = some (hid (b 1 t) (b 2 t)) := by
  unfold X2_hidden hid
  rw [ldA_n (by omega) (by omega), bd1_some, tr2 (by omega), bd1_some, hid_r, (h.2.2.1 t ht).1, (h.2.2.1 t ht).2.2.2.2.1]
theorem finds_m {N G : Nat} {w b : S2} (h : RM N G w b) (hN : N ≤ 24) (hG : G ≤ 8) {g t : Nat} (ht : t < N) (hg : g < G) : X2_finds w (nI g) (nI t) = some (fnd b g t) := by
  unfold X2_finds fnd
  rw [hidden_m h hN ht, bd1_some, bd1_some, gu0 (by omega), bd1_some, (h.2.1 g hg).1]
  split
  · rfl
  · split <;> rfl
theorem takes_m {N G : Nat} {w b : S2} (h : RM N G w b) (hN : N ≤ 24) {t : Nat} (ht : t < N) : X2_takes w (nI t) = some (stime N b t) := by
  unfold X2_takes stime
  rw [tr2 (by omega), bd1_some, loud_m h hN, bd1_some, (h.2.2.1 t ht).2.2.2.2.1]
