/-! the law's object: its constructor, 'with', one row more (laid by wip/p35/gen/rows.py) -/
theorem pm_ct {α : Type} {a b : List α} (h : ∀ (ct : α → List α → Nat), (∀ x l1 l2, ct x (l1 ++ l2) = ct x l1 + ct x l2) → (∀ x, ct x [] = 0) → ∀ x, ct x a = ct x b) : a.Perm b := by
  classical
  exact List.perm_iff_count.mpr (fun x => h (fun x l => l.count x) (fun x l1 l2 => List.count_append) (fun x => rfl) x)
theorem last_at {α : Type} (X : List α) (x : α) : (X ++ [x])[X.length]? = some x := by
  rw [List.getElem?_append_right (Nat.le_refl _), Nat.sub_self]
  rfl
theorem last_set {α : Type} (X : List α) (x y : α) : (X ++ [x]).set X.length y = X ++ [y] := by
  rw [List.set_append_right _ _ (Nat.le_refl _), Nat.sub_self]
  rfl
theorem mid_at {α : Type} (X Y : List α) (x : α) : (X ++ ([x] ++ Y))[X.length]? = some x := by
  rw [List.getElem?_append_right (Nat.le_refl _), Nat.sub_self]
  rfl
theorem mid_set {α : Type} (X Y : List α) (x y : α) : (X ++ ([x] ++ Y)).set X.length y = X ++ ([y] ++ Y) := by
  rw [List.set_append_right _ _ (Nat.le_refl _), Nat.sub_self]
  rfl
def wW (cyI cyJ : ClassId) (a q n c : Nat) (ρ : Nat → Nat) (r : Nat → Nat → Int32) (r0 : Nat → Int32) : va_W := (a, .inl (cyJ, n, rQ n ρ)) :: ((List.range n).map (fun k => (ρ k, .inl (cyI, c, .inl (r k)))) ++ [(q, .inl (cyI, c, .inl r0))])
abbrev rm_X2_with : Room := { frames := 0, cells := 1, slots := 32, locals := 0 }
theorem cf_X2_with : CF yX2_with wsX2_with rm_X2_with cX2_with 4 (some (.array (.array .int))) 2 1 32 RX2 := ⟨⟨_, rfl⟩, rfl, rfl, rfl, by decide, by decide, by decide +kernel⟩
set_option maxHeartbeats 4000000 in
theorem m_X2_with {l : Launch} (hfl : l.stackTraces = false) {D : va_G} {cyI cyZ cyJ : ClassId} {sc : SC} {a q n c : Nat} {ρ : Nat → Nat} {r : Nat → Nat → Int32} {r0 : Nat → Int32} (hn : n < 31) : Ct (ev_s, sc) l yX2_with wsX2_with rm_X2_with D (ty3 cyI cyZ cyJ) [.ref a, .ref q] (wW cyI cyJ a q n c ρ r r0) (fun o => ∃ b : Nat, o = .inr (some (.ref b), wW cyI cyJ a q n c ρ r r0 ++ [(b, .inl (cyJ, n + 1, rQ (n + 1) (fun k => if k = n then q else ρ k)))])) 1 32 := by
  refine ct_of (cc := cX2_with) (nL := 4) (own := RX2) (ret := some (.array (.array .int))) hfl (by decide) rfl rfl (Nat.le_of_ble_eq_true rfl) (fun p e s m args below meth cd A C hr hnm => ?_)
  refine g_setQ (fun Q hQ => ?_)
  have kc := Cx.w C (.classLink RX2 7 "[I") (by decide +kernel)
  have L10 : ∀ (k j b : Nat), j + k = n → Gq p l e rm_X2_with s m args below meth cd D A 4 Q (wW cyI cyJ a q n c ρ r r0 ++ [(b, .inl (cyJ, n + 1, oQ (fun i => if i < j then some (ρ i) else none)))]) 1 32 10 [(0, .ref a), (1, .ref q), (2, .ref b), (3, .int (nI j))] [] := by
    intro k
    induction k with
    | zero =>
      intro j b hj
      have hj : j = n := by omega
      subst hj
      refine g_iload_n C dX2_with_10 11 rfl 3 rfl ?_
      refine g_aload_n C dX2_with_11 12 rfl 0 rfl ?_
      refine g_alen C 0 2 rfl rfl (v := nI j) rfl dX2_with_12 13 rfl ?_
      refine g_icmp_ge C dX2_with_13 28 16 (by decide) rfl (fun _ => ?_) (fun c1 => absurd (nI_le (Nat.le_refl j) (by omega)) c1)
      refine g_aload_n C dX2_with_28 29 rfl 2 rfl ?_
      refine g_aload_n C dX2_with_29 30 rfl 0 rfl ?_
      refine g_alen C 0 2 rfl rfl (v := nI j) rfl dX2_with_30 31 rfl ?_
      refine g_aload_n C dX2_with_31 32 rfl 1 rfl ?_
      refine g_aast C (cI := cyI) (n2 := c) (g := r0) (wW cyI cyJ a q j c ρ r r0).length 2 0 (last_at _ _) rfl ?_ rfl (nI_in (by omega) (by omega)) (last_set _ _ _) dX2_with_32 33 rfl ?_
      · exact List.mem_append_left _ (List.mem_cons_of_mem _ (List.mem_append_right _ List.mem_cons_self))
      refine g_aload_n C dX2_with_33 34 rfl 2 rfl ?_
      have ef : va_up (fun i => if i < j then some (ρ i) else none) (nI j).toNatClampNeg (some q) = (fun k => if k < j + 1 then some (if k = j then q else ρ k) else none) := by
        funext k
        rw [nI_clamp (by omega)]
        simp only [va_up]
        by_cases h1 : k = j
        · subst h1
          rw [if_pos rfl, if_pos (by omega), if_pos rfl]
        · rw [if_neg h1]
          by_cases h2 : k < j
          · rw [if_pos h2, if_pos (by omega), if_neg h1]
          · rw [if_neg h2, if_neg (by omega)]
      rw [ef]
      refine g_Q hQ ?_
      exact g_aret C hr (Or.inr ⟨_, rfl⟩) ⟨b, rfl⟩ (Nat.le_of_ble_eq_true rfl) (Nat.le_of_ble_eq_true rfl) dX2_with_34
    | succ k ih =>
      intro j b hj
      refine g_iload_n C dX2_with_10 11 rfl 3 rfl ?_
      refine g_aload_n C dX2_with_11 12 rfl 0 rfl ?_
      refine g_alen C 0 2 rfl rfl (v := nI n) rfl dX2_with_12 13 rfl ?_
      refine g_icmp_ge C dX2_with_13 28 16 (by decide) rfl (fun c1 => absurd c1 (nI_ge (by omega) (by omega))) (fun _ => ?_)
      refine g_aload_n C dX2_with_16 17 rfl 2 rfl ?_
      refine g_iload_n C dX2_with_17 18 rfl 3 rfl ?_
      refine g_aload_n C dX2_with_18 19 rfl 0 rfl ?_
      refine g_iload_n C dX2_with_19 20 rfl 3 rfl ?_
      refine g_aald C (n := n) (f := fun k => if k < n then some (ρ k) else none) (x := ρ j) 0 2 rfl rfl (nI_in (by omega) (by omega)) (by rw [nI_clamp (by omega)]; exact if_pos (by omega)) dX2_with_20 21 rfl ?_
      refine g_aast C (cI := cyI) (n2 := c) (g := r j) (wW cyI cyJ a q n c ρ r r0).length 2 0 (last_at _ _) rfl ?_ rfl (nI_in (by omega) (by omega)) (last_set _ _ _) dX2_with_21 22 rfl ?_
      · exact List.mem_append_left _ (List.mem_cons_of_mem _ (List.mem_append_left _ (List.mem_map.mpr ⟨j, List.mem_range.mpr (by omega), rfl⟩)))
      have ef : va_up (fun i => if i < j then some (ρ i) else none) (nI j).toNatClampNeg (some (ρ j)) = (fun i => if i < j + 1 then some (ρ i) else none) := by
        funext k
        rw [nI_clamp (by omega)]
        simp only [va_up]
        by_cases h1 : k = j
        · subst h1
          rw [if_pos rfl, if_pos (by omega)]
        · rw [if_neg h1]
          by_cases h2 : k < j
          · rw [if_pos h2, if_pos (by omega)]
          · rw [if_neg h2, if_neg (by omega)]
      rw [ef]
      refine g_iinc C dX2_with_22 25 rfl 3 rfl (ii_1 _) (by decide) (lv' := [(3, .int (nI j + 1)), (0, .ref a), (1, .ref q), (2, .ref b)]) rfl ?_
      refine g_goto C dX2_with_25 10 (by decide) ?_
      refine g_lv [1, 2, 3, 0] (lv' := [(0, .ref a), (1, .ref q), (2, .ref b), (3, .int (nI j + 1))]) rfl ?_
      rw [nI_1]
      exact ih (j + 1) b (by omega)
  refine g_lve (lv' := [(0, .ref a), (1, .ref q)]) rfl ?_
  refine g_aload_n C dX2_with_0 1 rfl 0 rfl ?_
  refine g_alen C 0 2 rfl rfl (v := nI n) rfl dX2_with_1 2 rfl ?_
  refine g_iconst C dX2_with_2 3 rfl ic_1 ?_
  refine g_iadd C dX2_with_3 4 rfl ?_
  refine g_anew C (t0 := 2) (N := n + 1) kc rfl (by rw [nI_1]; exact nI_pos (by omega)) (by rw [nI_1, nI_clamp (by omega)]) (by omega) (c2 := 1) (s2 := 0 + (n + 1)) rfl rfl (Nat.le_of_ble_eq_true rfl) (by show _ ≤ 32; omega) dX2_with_4 7 rfl (fun b => ?_)
  refine g_wide (c2 := 1) (s2 := 32) (Nat.le_refl _) (by omega) ?_
  refine g_astore_n C dX2_with_7 8 rfl (by decide) (lv' := [(2, .ref b), (0, .ref a), (1, .ref q)]) rfl ?_
  refine g_iconst C dX2_with_8 9 rfl ic_0 ?_
  refine g_istore_n C dX2_with_9 10 rfl (by decide) (lv' := [(3, .int 0), (2, .ref b), (0, .ref a), (1, .ref q)]) rfl ?_
  refine g_lv [2, 3, 1, 0] (lv' := [(0, .ref a), (1, .ref q), (2, .ref b), (3, .int (nI 0))]) rfl ?_
  refine g_ws (ws' := wW cyI cyJ a q n c ρ r r0 ++ [(b, .inl (cyJ, n + 1, oQ (fun i => if i < 0 then some (ρ i) else none)))]) ?_ (L10 n 0 b (by omega))
  have : (fun i => if i < 0 then some (ρ i) else none) = (fun _ => (none : Option Nat)) := funext fun i => if_neg (Nat.not_lt_zero i)
  rw [this]
abbrev rm_X2_init : Room := { frames := 1, cells := 2, slots := 0, locals := 14 }
theorem cf_X2_init : CF yX2_init wsX2_init rm_X2_init cX2_init 1 none 0 2 0 RX2 := ⟨⟨_, rfl⟩, rfl, rfl, rfl, by decide, by decide, by decide +kernel⟩
theorem wS_0 {cyI cyJ : ClassId} {z z1 z2 : Nat} : wS cyI cyJ z (fun _ k => if k = 0 then z1 else z2) zS = [(z, .inr (2, [.int 0, .int 0, .int 0, .ref z1, .ref z2])), (z1, .inl (cyJ, 0, oQ (fun _ => none))), (z2, .inl (cyJ, 0, oQ (fun _ => none)))] := by
  have e : ∀ r : Nat → Nat, rQ 0 r = oQ (fun _ => none) := fun r => congrArg oQ (funext fun k => if_neg (Nat.not_lt_zero k))
  unfold wS wG wT
  rw [show nG zS = 0 from rfl, show nT zS = 0 from rfl]
  simp only [e]
  rfl
set_option maxHeartbeats 4000000 in
theorem m_X2_init {l : Launch} (hfl : l.stackTraces = false) {D : va_G} {cyI cyZ cyJ : ClassId} {sc : SC} {z : Nat} : Ct (ev_s, sc) l yX2_init wsX2_init rm_X2_init D (ty3 cyI cyZ cyJ) [.ref z] [(z, .inr (2, [.int 0, .int 0, .int 0, .null, .null]))] (fun o => ∃ h : Nat → Nat → Nat, o = .inr (none, wS cyI cyJ z h zS)) 2 0 := by
  refine ct_of (cc := cX2_init) (nL := 1) (own := RX2) (ret := none) hfl (by decide) rfl rfl (Nat.le_of_ble_eq_true rfl) (fun p e s m args below meth c A C hr hnm => ?_)
  refine g_setQ (fun Q hQ => ?_)
  have kc := Cx.w C (.classLink RX2 7 "[I") (by decide +kernel)
  have ka := Cx.w C (.methodLink RX2 1 objectInit) (by decide +kernel)
  have kb := Cx.w C (.instanceMethod objectInit) (by decide +kernel)
  have kd := Cx.w C (.code objectInit ⟨#[0xb1]⟩ 1 none) (by decide +kernel)
  have kf9 := Cx.w C (.fieldLink RX2 9 "SleepBorderLaw$Sim" "guards" "[[I") (by decide +kernel)
  have kf15 := Cx.w C (.fieldLink RX2 15 "SleepBorderLaw$Sim" "travellers" "[[I") (by decide +kernel)
  have iX2 : ∀ w ∈ u_ws RX2 TX2 5, w ∈ wsX2_init := by decide +kernel
  refine g_lve (lv' := [(0, .ref z)]) rfl ?_
  refine g_aload_n C dX2_init_0 1 rfl 0 rfl ?_
  refine g_objinit C ka kb kd (Nat.le_of_ble_eq_true rfl) (Nat.le_of_ble_eq_true rfl) dX2_init_1 4 rfl ?_
  refine g_aload_n C dX2_init_4 5 rfl 0 rfl ?_
  refine g_iconst C dX2_init_5 6 rfl ic_0 ?_
  refine g_anew C (t0 := 2) (N := 0) kc rfl (by decide) (by decide) (by decide) (c2 := 1) (s2 := 0) rfl rfl (Nat.le_of_ble_eq_true rfl) (Nat.le_of_ble_eq_true rfl) dX2_init_6 9 rfl (fun z1 => ?_)
  refine g_putR C iX2 tyX2 tyX2_ok nmX2 0 rfl rfl 3 (by decide) kf9 rfl rfl rfl rfl rfl (Nat.le_of_ble_eq_true rfl) (ws' := [(z, .inr (2, [.int 0, .int 0, .int 0, .ref z1, .null])), (z1, .inl (cyJ, 0, oQ (fun _ => none)))]) rfl dX2_init_9 12 rfl ?_
  refine g_aload_n C dX2_init_12 13 rfl 0 rfl ?_
  refine g_iconst C dX2_init_13 14 rfl ic_0 ?_
  refine g_anew C (t0 := 2) (N := 0) kc rfl (by decide) (by decide) (by decide) (c2 := 2) (s2 := 0) rfl rfl (Nat.le_of_ble_eq_true rfl) (Nat.le_of_ble_eq_true rfl) dX2_init_14 17 rfl (fun z2 => ?_)
  refine g_putR C iX2 tyX2 tyX2_ok nmX2 0 rfl rfl 4 (by decide) kf15 rfl rfl rfl rfl rfl (Nat.le_of_ble_eq_true rfl) (ws' := [(z, .inr (2, [.int 0, .int 0, .int 0, .ref z1, .ref z2])), (z1, .inl (cyJ, 0, oQ (fun _ => none))), (z2, .inl (cyJ, 0, oQ (fun _ => none)))]) rfl dX2_init_17 20 rfl ?_
  refine g_Q hQ ?_
  exact g_vret C hr ⟨fun _ k => if k = 0 then z1 else z2, by rw [wS_0]⟩ (Nat.le_of_ble_eq_true rfl) (Nat.le_of_ble_eq_true rfl) dX2_init_20
section GA
variable {ss : Ev} {p : Program} {l : Launch} {e : Env} {R : Room} {s : State} {m : MethodId} {args : Array Value} {below : List Frame} {meth : Method} {c : Code} {Q : State → Prop}
variable {D : va_G} {A : Nat → Prop} {tys : List (ClassId × FieldType)} {Ts : List Cond} {own : String} {cc : ByteArray} {nL : Nat} {tb : List ExceptionTableEntry} {ws ws' : va_W} {cells slots pc q : Nat} {lv lv' : List (Nat × Value)} {st : List Value}
variable {cyI cyZ cyJ : ClassId} {sc : SC}
theorem g_callSh (C : Cx ss p l s m args meth c cc nL Ts own D tys A tb) {y : MethodName} {w0 : List Cond} {rm : Room} {bytes : ByteArray} {maxL n mc ms i : Nat} {ret : Option FieldType} {Cn : String} {As rest : List Value} {W0 wl wr : va_W} {rv : Option Value} {W1 ws2 : (Nat → Nat → Nat) → va_W} {st2 : List Value} {c2 s2 : Nat}
    (hct : Ct ss l y w0 rm D tys As W0 (fun o => ∃ h : Nat → Nat → Nat, o = .inr (rv, W1 h)) mc ms) (cf : CF y w0 rm bytes maxL ret n mc ms Cn) (hg : GoodIn Ts (va_wsS own i y w0)) (hR : rm.frames + 1 ≤ R.frames ∧ 8 + (maxL + 11) + rm.locals ≤ R.locals)
    (hws : ws = wl ++ (W0 ++ wr)) (hst : st = As.reverse ++ rest) (hn : As.length = n) (hrest : (rest.map fun v => v.category).sum ≤ 8) (hc2 : cells + mc = c2) (hs2 : slots + ms = s2) (hf : c2 ≤ R.cells ∧ s2 ≤ R.slots) (d : decode cc pc = .ok (.invokestatic i, 3)) (q : Nat) (hq : pc + 3 = q)
    (hw2 : ∀ h, wl ++ (W1 h ++ wr) = ws2 h) (hs3 : rv.toList ++ rest = st2) (kk : ∀ h, Gq p l e R s m args below meth c D A nL Q (ws2 h) c2 s2 q lv st2) : Gq p l e R s m args below meth c D A nL Q ws cells slots pc lv st := by
  subst hs3
  exact g_callS C hct cf hg hR hws hst hn hrest hc2 hs2 hf d q hq (fun _ h => by obtain ⟨_, h⟩ := h; cases h) (fun rv W1 h => by
    obtain ⟨h', e⟩ := h
    cases e
    rw [hw2 h']
    exact kk h')
theorem addG_u {u u' : S2} {f : Nat → Int32} (hadd : addG u f = some u') : nG u < 8 ∧ u' = up2 (up2 (up2 (up2 u 8 (nG u) (f 0)) 9 (nG u) (f 1)) 10 (nG u) (f 2)) 0 4 (nI (nG u + 1)) := by
  unfold addG at hadd
  split at hadd
  · cases hadd
  · exact ⟨by omega, (Option.some.inj hadd).symm⟩
theorem addG_0 {u u' : S2} {f : Nat → Int32} (hadd : addG u f = some u') : (∀ j, j < 3 → u' 0 j = u 0 j) ∧ nG u' = nG u + 1 ∧ nT u' = nT u := by
  obtain ⟨hn, hu⟩ := addG_u hadd
  refine ⟨fun j hj => ?_, ?_, ?_⟩
  · rw [hu]
    simp (disch := omega) only [up2_n]
  · unfold nG
    rw [hu, up2_e (by omega), nI_clamp (by omega)]
    rfl
  · unfold nT
    rw [hu]
    simp (disch := omega) only [up2_n]
theorem addG_r {u u' : S2} {f : Nat → Int32} (hadd : addG u f = some u') : (∀ j, j < 3 → u' (j + 8) (nG u) = f j) ∧ (∀ j t, j < 3 → t < nG u → u' (j + 8) t = u (j + 8) t) ∧ (∀ j t, j < 6 → u' (j + 1) t = u (j + 1) t) := by
  obtain ⟨hn, hu⟩ := addG_u hadd
  rw [hu]
  clear hu hadd
  generalize nG u = N0 at hn ⊢
  refine ⟨fun j hj => ?_, fun j t hj ht => ?_, fun j t hj => ?_⟩
  · match j, hj with
        | 0, _ => simp (disch := omega) only [up2_e, up2_n]
        | 1, _ => simp (disch := omega) only [up2_e, up2_n]
        | 2, _ => simp (disch := omega) only [up2_e, up2_n]
  · simp (disch := omega) only [up2_n]
  · simp (disch := omega) only [up2_n]
theorem addG_w {cyI cyJ : ClassId} {z b q0 : Nat} {h : Nat → Nat → Nat} {u u' : S2} {f : Nat → Int32} (hadd : addG u f = some u') : ∃ h2 : Nat → Nat → Nat, h2 1 (nG u) = q0 ∧ ([(z, .inr (2, [.int (u 0 0), .int (u 0 1), .int (u 0 2), .ref b, .ref (h 0 1)]))] ++ (([(b, .inl (cyJ, nG u + 1, rQ (nG u + 1) (fun k => if k = nG u then q0 else h 1 k)))] ++ ([(h 0 1, .inl (cyJ, nT u, rQ (nT u) (h 2)))] ++ (wG cyI h u ++ ([(q0, .inl (cyI, 3, .inl (fun j => if j < 3 then u' (j + 8) (nG u) else 0)))] ++ wT cyI h u)))))) = wS cyI cyJ z h2 u' := by
  obtain ⟨e0, en, eo⟩ := addG_0 hadd
  obtain ⟨r1', r2', r3'⟩ := addG_r hadd
  obtain ⟨h2, E1, E2, E3, E4, E5⟩ : ∃ h2 : Nat → Nat → Nat, h2 0 0 = b ∧ h2 0 1 = h 0 1 ∧ h2 1 (nG u) = q0 ∧ (∀ k, k ≠ nG u → h2 1 k = h 1 k) ∧ (∀ k, h2 2 k = h 2 k) := ⟨fun i k => if i = 0 ∧ k = 0 then b else if i = 1 ∧ k = nG u then q0 else h i k, by simp, by simp, by simp, fun k hk => by simp [hk], fun k => by simp⟩
  refine ⟨h2, E3, ?_⟩
  have eG : ∀ k, k < nG u → rwG cyI h2 u' k = rwG cyI h u k := by
    intro k hk
    have e := rwG_cg (cyI := cyI) (h := h2) (u := u') (v := u) (t := k) (fun j hj => r2' j k hj hk)
    rw [e]
    unfold rwG
    rw [E4 k (by omega)]
  have eM : wG cyI h2 u' = wG cyI h u ++ [(q0, .inl (cyI, 3, .inl (fun j => if j < 3 then u' (j + 8) (nG u) else 0)))] := by
    unfold wG
    rw [en, List.range_succ, List.map_append, map_cg eG]
    refine congrArg _ ?_
    show [rwG cyI h2 u' (nG u)] = _
    unfold rwG
    rw [E3]
  have eO : wT cyI h2 u' = wT cyI h u := by
    unfold wT
    rw [eo]
    refine map_cg (fun k hk => ?_)
    have e := rwT_cg (cyI := cyI) (h := h2) (u := u') (v := u) (t := k) (fun j hj => r3' j k hj)
    rw [e]
    unfold rwT
    rw [E5]
  have r1 : rQ (nG u + 1) (h2 1) = rQ (nG u + 1) (fun k => if k = nG u then q0 else h 1 k) := by
    unfold rQ
    refine congrArg oQ (funext fun k => ?_)
    by_cases hk : k < nG u + 1
    · rw [if_pos hk, if_pos hk]
      show some (h2 1 k) = some (if k = nG u then q0 else h 1 k)
      by_cases e : k = nG u
      · rw [if_pos e, e, E3]
      · rw [if_neg e, E4 k e]
    · rw [if_neg hk, if_neg hk]
  have r2 : rQ (nT u) (h2 2) = rQ (nT u) (h 2) := by
    rw [show h2 2 = h 2 from funext E5]
  unfold wS
  rw [eM, eO, en, eo, r1, r2, e0 0 (by omega), e0 1 (by omega), e0 2 (by omega), E1, E2]
  simp only [List.append_assoc, List.cons_append, List.nil_append]
theorem wW_G {cyI cyJ : ClassId} {q0 : Nat} {h : Nat → Nat → Nat} {u : S2} {f : Nat → Int32} : wW cyI cyJ (h 0 0) q0 (nG u) 3 (h 1) (fun k j => if j < 3 then u (j + 8) k else 0) f = [(h 0 0, .inl (cyJ, nG u, rQ (nG u) (h 1)))] ++ (wG cyI h u ++ [(q0, .inl (cyI, 3, .inl f))]) := rfl
theorem m_withG {l : Launch} (hfl : l.stackTraces = false) {D : va_G} {cyI cyZ cyJ : ClassId} {sc : SC} {q0 : Nat} {h : Nat → Nat → Nat} {u : S2} {f : Nat → Int32} (hn : nG u < 31) : Ct (ev_s, sc) l yX2_with wsX2_with rm_X2_with D (ty3 cyI cyZ cyJ) [.ref (h 0 0), .ref q0] ([(h 0 0, .inl (cyJ, nG u, rQ (nG u) (h 1)))] ++ (wG cyI h u ++ [(q0, .inl (cyI, 3, .inl f))])) (fun o => ∃ b : Nat, o = .inr (some (.ref b), ([(h 0 0, .inl (cyJ, nG u, rQ (nG u) (h 1)))] ++ (wG cyI h u ++ [(q0, .inl (cyI, 3, .inl f))])) ++ [(b, .inl (cyJ, nG u + 1, rQ (nG u + 1) (fun k => if k = nG u then q0 else h 1 k)))])) 1 32 := by
  have hc := m_X2_with hfl (D := D) (cyI := cyI) (cyZ := cyZ) (cyJ := cyJ) (sc := sc) (a := h 0 0) (q := q0) (n := nG u) (c := 3) (ρ := h 1) (r := fun k j => if j < 3 then u (j + 8) k else 0) (r0 := f) hn
  rw [wW_G] at hc
  exact hc
theorem wS_G {cyI cyJ : ClassId} {z : Nat} {h : Nat → Nat → Nat} {u : S2} : wS cyI cyJ z h u = [(z, .inr (2, [.int (u 0 0), .int (u 0 1), .int (u 0 2), .ref (h 0 0), .ref (h 0 1)]))] ++ ([(h 0 0, .inl (cyJ, nG u, rQ (nG u) (h 1)))] ++ ([(h 0 1, .inl (cyJ, nT u, rQ (nT u) (h 2)))] ++ (wG cyI h u ++ wT cyI h u))) := rfl
set_option maxHeartbeats 4000000 in
set_option maxRecDepth 100000 in
theorem g_addG (C : Cx (ev_s, sc) p l s m args meth c cc nL Ts own D (ty3 cyI cyZ cyJ) A tb) (hfl : l.stackTraces = false) {i k z q0 : Nat} {h : Nat → Nat → Nat} {u u' : S2} {f : Nat → Int32} {rest : List Value} {wl : va_W} {c2 s2 : Nat} (hg : GoodIn Ts (va_wsS own i yX2_with wsX2_with)) (hR : rm_X2_with.frames + 1 ≤ R.frames ∧ 8 + (4 + 11) + rm_X2_with.locals ≤ R.locals)
    (hws : ws = wl ++ (wA cyI q0 3 f ++ wS cyI cyJ z h u)) (hst : st = .ref q0 :: .ref (h 0 0) :: .ref z :: rest) (hrest : (rest.map fun v => v.category).sum ≤ 7) (hc2 : cells + 1 = c2) (hs2 : slots + 32 = s2) (hf : c2 ≤ R.cells ∧ s2 ≤ R.slots) (hin : ∀ w ∈ u_ws RX2 TX2 5, w ∈ Ts) (hlink : (Cond.fieldLink own k "SleepBorderLaw$Sim" "guards" "[[I").before args s = true) (hadd : addG u f = some u') (d : decode cc pc = .ok (.invokestatic i, 3)) (d2 : decode cc (pc + 3) = .ok (.putfield k, 3)) (q2 : Nat) (hq2 : pc + 6 = q2)
    (kk : ∀ h' : Nat → Nat → Nat, h' 1 (nG u) = q0 → Gq p l e R s m args below meth c D A nL Q (wl ++ wS cyI cyJ z h' u') c2 s2 q2 lv rest) : Gq p l e R s m args below meth c D A nL Q ws cells slots pc lv st := by
  subst hws; subst hst; subst hq2
  obtain ⟨hcap, -⟩ := addG_u hadd
  rw [wS_G]
  unfold wA
  refine g_pm (ws' := (wl ++ ([(z, .inr (2, [.int (u 0 0), .int (u 0 1), .int (u 0 2), .ref (h 0 0), .ref (h 0 1)]))] ++ ([(h 0 1, .inl (cyJ, nT u, rQ (nT u) (h 2)))] ++ wT cyI h u))) ++ (([(h 0 0, .inl (cyJ, nG u, rQ (nG u) (h 1)))] ++ (wG cyI h u ++ [(q0, .inl (cyI, 3, .inl f))])) ++ [])) ?_ ?_
  · refine pm_ct (fun ct ha hn x => ?_)
    simp only [ha, hn]
    omega
  refine g_callS C (m_withG hfl (sc := sc) (q0 := q0) (h := h) (u := u) (f := f) (by omega)) cf_X2_with hg hR (rest := .ref z :: rest) (c2 := c2) (s2 := s2) rfl rfl rfl (by simp only [List.map_cons, List.sum_cons]; show 1 + _ ≤ 8; omega) hc2 hs2 hf d (pc + 3) rfl (fun n h => by obtain ⟨b, h⟩ := h; cases h) (fun rv W1 hW => ?_)
  obtain ⟨b, hW⟩ := hW
  cases hW
  refine g_pm (ws' := (wl ++ ([(z, .inr (2, [.int (u 0 0), .int (u 0 1), .int (u 0 2), .ref (h 0 0), .ref (h 0 1)]))] ++ (([(b, .inl (cyJ, nG u + 1, rQ (nG u + 1) (fun k => if k = nG u then q0 else h 1 k)))] ++ ([(h 0 1, .inl (cyJ, nT u, rQ (nT u) (h 2)))] ++ (wG cyI h u ++ ([(q0, .inl (cyI, 3, .inl f))] ++ wT cyI h u))))))) ++ [(h 0 0, .inl (cyJ, nG u, rQ (nG u) (h 1)))]) ?_ ?_
  · refine pm_ct (fun ct ha hn x => ?_)
    simp only [ha, hn]
    omega
  refine g_left (ws' := (wl ++ ([(z, .inr (2, [.int (u 0 0), .int (u 0 1), .int (u 0 2), .ref (h 0 0), .ref (h 0 1)]))] ++ (([(b, .inl (cyJ, nG u + 1, rQ (nG u + 1) (fun k => if k = nG u then q0 else h 1 k)))] ++ ([(h 0 1, .inl (cyJ, nT u, rQ (nT u) (h 2)))] ++ (wG cyI h u ++ ([(q0, .inl (cyI, 3, .inl f))] ++ wT cyI h u)))))))) rfl ?_
  have he : ((wl ++ ([(z, .inr (2, [.int (u 0 0), .int (u 0 1), .int (u 0 2), .ref (h 0 0), .ref (h 0 1)]))] ++ (([(b, .inl (cyJ, nG u + 1, rQ (nG u + 1) (fun k => if k = nG u then q0 else h 1 k)))] ++ ([(h 0 1, .inl (cyJ, nT u, rQ (nT u) (h 2)))] ++ (wG cyI h u ++ ([(q0, .inl (cyI, 3, .inl f))] ++ wT cyI h u))))))) : va_W)[wl.length]? = some (z, .inr (2, [.int (u 0 0), .int (u 0 1), .int (u 0 2), .ref (h 0 0), .ref (h 0 1)])) := mid_at wl _ _
  have hw : ((wl ++ ([(z, .inr (2, [.int (u 0 0), .int (u 0 1), .int (u 0 2), .ref (h 0 0), .ref (h 0 1)]))] ++ (([(b, .inl (cyJ, nG u + 1, rQ (nG u + 1) (fun k => if k = nG u then q0 else h 1 k)))] ++ ([(h 0 1, .inl (cyJ, nT u, rQ (nT u) (h 2)))] ++ (wG cyI h u ++ ([(q0, .inl (cyI, 3, .inl f))] ++ wT cyI h u))))))) : va_W).set wl.length (z, .inr (2, ([.int (u 0 0), .int (u 0 1), .int (u 0 2), .ref (h 0 0), .ref (h 0 1)] : List Value).set 3 (.ref b))) = (wl ++ ([(z, .inr (2, [.int (u 0 0), .int (u 0 1), .int (u 0 2), .ref b, .ref (h 0 1)]))] ++ (([(b, .inl (cyJ, nG u + 1, rQ (nG u + 1) (fun k => if k = nG u then q0 else h 1 k)))] ++ ([(h 0 1, .inl (cyJ, nT u, rQ (nT u) (h 2)))] ++ (wG cyI h u ++ ([(q0, .inl (cyI, 3, .inl f))] ++ wT cyI h u))))))) := mid_set wl _ _ _
  refine g_putR (ci := 2) (fs := [.int (u 0 0), .int (u 0 1), .int (u 0 2), .ref (h 0 0), .ref (h 0 1)]) (ty := .array (.array .int)) C hin tyX2 tyX2_ok nmX2 wl.length he rfl 3 (by decide) hlink rfl rfl rfl rfl rfl (Nat.le_of_ble_eq_true rfl) hw d2 (pc + 6) rfl ?_
  refine g_as (wl := (wl ++ ([(z, .inr (2, [.int (u 0 0), .int (u 0 1), .int (u 0 2), .ref b, .ref (h 0 1)]))] ++ ([(b, .inl (cyJ, nG u + 1, rQ (nG u + 1) (fun k => if k = nG u then q0 else h 1 k)))] ++ ([(h 0 1, .inl (cyJ, nT u, rQ (nT u) (h 2)))] ++ wG cyI h u))))) (a := q0) (x0 := .inl (cyI, 3, .inl f)) (x1 := .inl (cyI, 3, .inl (fun j => if j < 3 then u' (j + 8) (nG u) else 0))) (wr := wT cyI h u) (ws' := (wl ++ ([(z, .inr (2, [.int (u 0 0), .int (u 0 1), .int (u 0 2), .ref b, .ref (h 0 1)]))] ++ (([(b, .inl (cyJ, nG u + 1, rQ (nG u + 1) (fun k => if k = nG u then q0 else h 1 k)))] ++ ([(h 0 1, .inl (cyJ, nT u, rQ (nT u) (h 2)))] ++ (wG cyI h u ++ ([(q0, .inl (cyI, 3, .inl (fun j => if j < 3 then u' (j + 8) (nG u) else 0)))] ++ wT cyI h u)))))))) ?_ ?_ ?_ ?_
  · simp only [List.append_assoc, List.cons_append, List.nil_append]
  · simp only [List.append_assoc, List.cons_append, List.nil_append]
  · intro H hH
    show H[q0]? = some (vp_cell _ _)
    have : H[q0]? = some (vp_cell cyI (3, .inl f)) := hH
    rw [this]
    refine congrArg some (cell_i (fun k hk => ?_))
    rw [if_pos hk, (addG_r hadd).1 k hk]
  obtain ⟨h2, E3, ew⟩ := addG_w (cyI := cyI) (cyJ := cyJ) (z := z) (b := b) (q0 := q0) (h := h) hadd
  exact g_ws (congrArg (fun x => wl ++ x) ew) (kk h2 E3)
theorem addT_u {u u' : S2} {f : Nat → Int32} (hadd : addT u f = some u') : nT u < 24 ∧ u' = up2 (up2 (up2 (up2 (up2 (up2 (up2 u 1 (nT u) (f 0)) 2 (nT u) (f 1)) 3 (nT u) (f 2)) 4 (nT u) (f 3)) 5 (nT u) (f 4)) 6 (nT u) (f 5)) 0 3 (nI (nT u + 1)) := by
  unfold addT at hadd
  split at hadd
  · cases hadd
  · exact ⟨by omega, (Option.some.inj hadd).symm⟩
theorem addT_0 {u u' : S2} {f : Nat → Int32} (hadd : addT u f = some u') : (∀ j, j < 3 → u' 0 j = u 0 j) ∧ nT u' = nT u + 1 ∧ nG u' = nG u := by
  obtain ⟨hn, hu⟩ := addT_u hadd
  refine ⟨fun j hj => ?_, ?_, ?_⟩
  · rw [hu]
    simp (disch := omega) only [up2_n]
  · unfold nT
    rw [hu, up2_e (by omega), nI_clamp (by omega)]
    rfl
  · unfold nG
    rw [hu]
    simp (disch := omega) only [up2_n]
theorem addT_r {u u' : S2} {f : Nat → Int32} (hadd : addT u f = some u') : (∀ j, j < 6 → u' (j + 1) (nT u) = f j) ∧ (∀ j t, j < 6 → t < nT u → u' (j + 1) t = u (j + 1) t) ∧ (∀ j t, j < 3 → u' (j + 8) t = u (j + 8) t) := by
  obtain ⟨hn, hu⟩ := addT_u hadd
  rw [hu]
  clear hu hadd
  generalize nT u = N0 at hn ⊢
  refine ⟨fun j hj => ?_, fun j t hj ht => ?_, fun j t hj => ?_⟩
  · match j, hj with
        | 0, _ => simp (disch := omega) only [up2_e, up2_n]
        | 1, _ => simp (disch := omega) only [up2_e, up2_n]
        | 2, _ => simp (disch := omega) only [up2_e, up2_n]
        | 3, _ => simp (disch := omega) only [up2_e, up2_n]
        | 4, _ => simp (disch := omega) only [up2_e, up2_n]
        | 5, _ => simp (disch := omega) only [up2_e, up2_n]
  · simp (disch := omega) only [up2_n]
  · simp (disch := omega) only [up2_n]
theorem addT_w {cyI cyJ : ClassId} {z b q0 : Nat} {h : Nat → Nat → Nat} {u u' : S2} {f : Nat → Int32} (hadd : addT u f = some u') : ∃ h2 : Nat → Nat → Nat, h2 2 (nT u) = q0 ∧ ([(z, .inr (2, [.int (u 0 0), .int (u 0 1), .int (u 0 2), .ref (h 0 0), .ref b]))] ++ (([(h 0 0, .inl (cyJ, nG u, rQ (nG u) (h 1)))] ++ ([(b, .inl (cyJ, nT u + 1, rQ (nT u + 1) (fun k => if k = nT u then q0 else h 2 k)))] ++ (wG cyI h u ++ (wT cyI h u ++ [(q0, .inl (cyI, 6, .inl (fun j => if j < 6 then u' (j + 1) (nT u) else 0)))])))))) = wS cyI cyJ z h2 u' := by
  obtain ⟨e0, en, eo⟩ := addT_0 hadd
  obtain ⟨r1', r2', r3'⟩ := addT_r hadd
  obtain ⟨h2, E1, E2, E3, E4, E5⟩ : ∃ h2 : Nat → Nat → Nat, h2 0 1 = b ∧ h2 0 0 = h 0 0 ∧ h2 2 (nT u) = q0 ∧ (∀ k, k ≠ nT u → h2 2 k = h 2 k) ∧ (∀ k, h2 1 k = h 1 k) := ⟨fun i k => if i = 0 ∧ k = 1 then b else if i = 2 ∧ k = nT u then q0 else h i k, by simp, by simp, by simp, fun k hk => by simp [hk], fun k => by simp⟩
  refine ⟨h2, E3, ?_⟩
  have eG : ∀ k, k < nT u → rwT cyI h2 u' k = rwT cyI h u k := by
    intro k hk
    have e := rwT_cg (cyI := cyI) (h := h2) (u := u') (v := u) (t := k) (fun j hj => r2' j k hj hk)
    rw [e]
    unfold rwT
    rw [E4 k (by omega)]
  have eM : wT cyI h2 u' = wT cyI h u ++ [(q0, .inl (cyI, 6, .inl (fun j => if j < 6 then u' (j + 1) (nT u) else 0)))] := by
    unfold wT
    rw [en, List.range_succ, List.map_append, map_cg eG]
    refine congrArg _ ?_
    show [rwT cyI h2 u' (nT u)] = _
    unfold rwT
    rw [E3]
  have eO : wG cyI h2 u' = wG cyI h u := by
    unfold wG
    rw [eo]
    refine map_cg (fun k hk => ?_)
    have e := rwG_cg (cyI := cyI) (h := h2) (u := u') (v := u) (t := k) (fun j hj => r3' j k hj)
    rw [e]
    unfold rwG
    rw [E5]
  have r1 : rQ (nT u + 1) (h2 2) = rQ (nT u + 1) (fun k => if k = nT u then q0 else h 2 k) := by
    unfold rQ
    refine congrArg oQ (funext fun k => ?_)
    by_cases hk : k < nT u + 1
    · rw [if_pos hk, if_pos hk]
      show some (h2 2 k) = some (if k = nT u then q0 else h 2 k)
      by_cases e : k = nT u
      · rw [if_pos e, e, E3]
      · rw [if_neg e, E4 k e]
    · rw [if_neg hk, if_neg hk]
  have r2 : rQ (nG u) (h2 1) = rQ (nG u) (h 1) := by
    rw [show h2 1 = h 1 from funext E5]
  unfold wS
  rw [eM, eO, en, eo, r1, r2, e0 0 (by omega), e0 1 (by omega), e0 2 (by omega), E1, E2]
  simp only [List.append_assoc, List.cons_append, List.nil_append]
theorem wW_T {cyI cyJ : ClassId} {q0 : Nat} {h : Nat → Nat → Nat} {u : S2} {f : Nat → Int32} : wW cyI cyJ (h 0 1) q0 (nT u) 6 (h 2) (fun k j => if j < 6 then u (j + 1) k else 0) f = [(h 0 1, .inl (cyJ, nT u, rQ (nT u) (h 2)))] ++ (wT cyI h u ++ [(q0, .inl (cyI, 6, .inl f))]) := rfl
theorem m_withT {l : Launch} (hfl : l.stackTraces = false) {D : va_G} {cyI cyZ cyJ : ClassId} {sc : SC} {q0 : Nat} {h : Nat → Nat → Nat} {u : S2} {f : Nat → Int32} (hn : nT u < 31) : Ct (ev_s, sc) l yX2_with wsX2_with rm_X2_with D (ty3 cyI cyZ cyJ) [.ref (h 0 1), .ref q0] ([(h 0 1, .inl (cyJ, nT u, rQ (nT u) (h 2)))] ++ (wT cyI h u ++ [(q0, .inl (cyI, 6, .inl f))])) (fun o => ∃ b : Nat, o = .inr (some (.ref b), ([(h 0 1, .inl (cyJ, nT u, rQ (nT u) (h 2)))] ++ (wT cyI h u ++ [(q0, .inl (cyI, 6, .inl f))])) ++ [(b, .inl (cyJ, nT u + 1, rQ (nT u + 1) (fun k => if k = nT u then q0 else h 2 k)))])) 1 32 := by
  have hc := m_X2_with hfl (D := D) (cyI := cyI) (cyZ := cyZ) (cyJ := cyJ) (sc := sc) (a := h 0 1) (q := q0) (n := nT u) (c := 6) (ρ := h 2) (r := fun k j => if j < 6 then u (j + 1) k else 0) (r0 := f) hn
  rw [wW_T] at hc
  exact hc
theorem wS_T {cyI cyJ : ClassId} {z : Nat} {h : Nat → Nat → Nat} {u : S2} : wS cyI cyJ z h u = [(z, .inr (2, [.int (u 0 0), .int (u 0 1), .int (u 0 2), .ref (h 0 0), .ref (h 0 1)]))] ++ ([(h 0 0, .inl (cyJ, nG u, rQ (nG u) (h 1)))] ++ ([(h 0 1, .inl (cyJ, nT u, rQ (nT u) (h 2)))] ++ (wG cyI h u ++ wT cyI h u))) := rfl
set_option maxHeartbeats 4000000 in
set_option maxRecDepth 100000 in
theorem g_addT (C : Cx (ev_s, sc) p l s m args meth c cc nL Ts own D (ty3 cyI cyZ cyJ) A tb) (hfl : l.stackTraces = false) {i k z q0 : Nat} {h : Nat → Nat → Nat} {u u' : S2} {f : Nat → Int32} {rest : List Value} {wl : va_W} {c2 s2 : Nat} (hg : GoodIn Ts (va_wsS own i yX2_with wsX2_with)) (hR : rm_X2_with.frames + 1 ≤ R.frames ∧ 8 + (4 + 11) + rm_X2_with.locals ≤ R.locals)
    (hws : ws = wl ++ (wA cyI q0 6 f ++ wS cyI cyJ z h u)) (hst : st = .ref q0 :: .ref (h 0 1) :: .ref z :: rest) (hrest : (rest.map fun v => v.category).sum ≤ 7) (hc2 : cells + 1 = c2) (hs2 : slots + 32 = s2) (hf : c2 ≤ R.cells ∧ s2 ≤ R.slots) (hin : ∀ w ∈ u_ws RX2 TX2 5, w ∈ Ts) (hlink : (Cond.fieldLink own k "SleepBorderLaw$Sim" "travellers" "[[I").before args s = true) (hadd : addT u f = some u') (d : decode cc pc = .ok (.invokestatic i, 3)) (d2 : decode cc (pc + 3) = .ok (.putfield k, 3)) (q2 : Nat) (hq2 : pc + 6 = q2)
    (kk : ∀ h' : Nat → Nat → Nat, h' 2 (nT u) = q0 → Gq p l e R s m args below meth c D A nL Q (wl ++ wS cyI cyJ z h' u') c2 s2 q2 lv rest) : Gq p l e R s m args below meth c D A nL Q ws cells slots pc lv st := by
  subst hws; subst hst; subst hq2
  obtain ⟨hcap, -⟩ := addT_u hadd
  rw [wS_T]
  unfold wA
  refine g_pm (ws' := (wl ++ ([(z, .inr (2, [.int (u 0 0), .int (u 0 1), .int (u 0 2), .ref (h 0 0), .ref (h 0 1)]))] ++ ([(h 0 0, .inl (cyJ, nG u, rQ (nG u) (h 1)))] ++ wG cyI h u))) ++ (([(h 0 1, .inl (cyJ, nT u, rQ (nT u) (h 2)))] ++ (wT cyI h u ++ [(q0, .inl (cyI, 6, .inl f))])) ++ [])) ?_ ?_
  · refine pm_ct (fun ct ha hn x => ?_)
    simp only [ha, hn]
    omega
  refine g_callS C (m_withT hfl (sc := sc) (q0 := q0) (h := h) (u := u) (f := f) (by omega)) cf_X2_with hg hR (rest := .ref z :: rest) (c2 := c2) (s2 := s2) rfl rfl rfl (by simp only [List.map_cons, List.sum_cons]; show 1 + _ ≤ 8; omega) hc2 hs2 hf d (pc + 3) rfl (fun n h => by obtain ⟨b, h⟩ := h; cases h) (fun rv W1 hW => ?_)
  obtain ⟨b, hW⟩ := hW
  cases hW
  refine g_pm (ws' := (wl ++ ([(z, .inr (2, [.int (u 0 0), .int (u 0 1), .int (u 0 2), .ref (h 0 0), .ref (h 0 1)]))] ++ (([(h 0 0, .inl (cyJ, nG u, rQ (nG u) (h 1)))] ++ ([(b, .inl (cyJ, nT u + 1, rQ (nT u + 1) (fun k => if k = nT u then q0 else h 2 k)))] ++ (wG cyI h u ++ (wT cyI h u ++ [(q0, .inl (cyI, 6, .inl f))]))))))) ++ [(h 0 1, .inl (cyJ, nT u, rQ (nT u) (h 2)))]) ?_ ?_
  · refine pm_ct (fun ct ha hn x => ?_)
    simp only [ha, hn]
    omega
  refine g_left (ws' := (wl ++ ([(z, .inr (2, [.int (u 0 0), .int (u 0 1), .int (u 0 2), .ref (h 0 0), .ref (h 0 1)]))] ++ (([(h 0 0, .inl (cyJ, nG u, rQ (nG u) (h 1)))] ++ ([(b, .inl (cyJ, nT u + 1, rQ (nT u + 1) (fun k => if k = nT u then q0 else h 2 k)))] ++ (wG cyI h u ++ (wT cyI h u ++ [(q0, .inl (cyI, 6, .inl f))])))))))) rfl ?_
  have he : ((wl ++ ([(z, .inr (2, [.int (u 0 0), .int (u 0 1), .int (u 0 2), .ref (h 0 0), .ref (h 0 1)]))] ++ (([(h 0 0, .inl (cyJ, nG u, rQ (nG u) (h 1)))] ++ ([(b, .inl (cyJ, nT u + 1, rQ (nT u + 1) (fun k => if k = nT u then q0 else h 2 k)))] ++ (wG cyI h u ++ (wT cyI h u ++ [(q0, .inl (cyI, 6, .inl f))]))))))) : va_W)[wl.length]? = some (z, .inr (2, [.int (u 0 0), .int (u 0 1), .int (u 0 2), .ref (h 0 0), .ref (h 0 1)])) := mid_at wl _ _
  have hw : ((wl ++ ([(z, .inr (2, [.int (u 0 0), .int (u 0 1), .int (u 0 2), .ref (h 0 0), .ref (h 0 1)]))] ++ (([(h 0 0, .inl (cyJ, nG u, rQ (nG u) (h 1)))] ++ ([(b, .inl (cyJ, nT u + 1, rQ (nT u + 1) (fun k => if k = nT u then q0 else h 2 k)))] ++ (wG cyI h u ++ (wT cyI h u ++ [(q0, .inl (cyI, 6, .inl f))]))))))) : va_W).set wl.length (z, .inr (2, ([.int (u 0 0), .int (u 0 1), .int (u 0 2), .ref (h 0 0), .ref (h 0 1)] : List Value).set 4 (.ref b))) = (wl ++ ([(z, .inr (2, [.int (u 0 0), .int (u 0 1), .int (u 0 2), .ref (h 0 0), .ref b]))] ++ (([(h 0 0, .inl (cyJ, nG u, rQ (nG u) (h 1)))] ++ ([(b, .inl (cyJ, nT u + 1, rQ (nT u + 1) (fun k => if k = nT u then q0 else h 2 k)))] ++ (wG cyI h u ++ (wT cyI h u ++ [(q0, .inl (cyI, 6, .inl f))]))))))) := mid_set wl _ _ _
  refine g_putR (ci := 2) (fs := [.int (u 0 0), .int (u 0 1), .int (u 0 2), .ref (h 0 0), .ref (h 0 1)]) (ty := .array (.array .int)) C hin tyX2 tyX2_ok nmX2 wl.length he rfl 4 (by decide) hlink rfl rfl rfl rfl rfl (Nat.le_of_ble_eq_true rfl) hw d2 (pc + 6) rfl ?_
  refine g_as (wl := (wl ++ ([(z, .inr (2, [.int (u 0 0), .int (u 0 1), .int (u 0 2), .ref (h 0 0), .ref b]))] ++ ([(h 0 0, .inl (cyJ, nG u, rQ (nG u) (h 1)))] ++ ([(b, .inl (cyJ, nT u + 1, rQ (nT u + 1) (fun k => if k = nT u then q0 else h 2 k)))] ++ (wG cyI h u ++ wT cyI h u)))))) (a := q0) (x0 := .inl (cyI, 6, .inl f)) (x1 := .inl (cyI, 6, .inl (fun j => if j < 6 then u' (j + 1) (nT u) else 0))) (wr := []) (ws' := (wl ++ ([(z, .inr (2, [.int (u 0 0), .int (u 0 1), .int (u 0 2), .ref (h 0 0), .ref b]))] ++ (([(h 0 0, .inl (cyJ, nG u, rQ (nG u) (h 1)))] ++ ([(b, .inl (cyJ, nT u + 1, rQ (nT u + 1) (fun k => if k = nT u then q0 else h 2 k)))] ++ (wG cyI h u ++ (wT cyI h u ++ [(q0, .inl (cyI, 6, .inl (fun j => if j < 6 then u' (j + 1) (nT u) else 0)))])))))))) ?_ ?_ ?_ ?_
  · simp only [List.append_assoc, List.cons_append, List.nil_append]
  · simp only [List.append_assoc, List.cons_append, List.nil_append]
  · intro H hH
    show H[q0]? = some (vp_cell _ _)
    have : H[q0]? = some (vp_cell cyI (6, .inl f)) := hH
    rw [this]
    refine congrArg some (cell_i (fun k hk => ?_))
    rw [if_pos hk, (addT_r hadd).1 k hk]
  obtain ⟨h2, E3, ew⟩ := addT_w (cyI := cyI) (cyJ := cyJ) (z := z) (b := b) (q0 := q0) (h := h) hadd
  exact g_ws (congrArg (fun x => wl ++ x) ew) (kk h2 E3)
end GA
