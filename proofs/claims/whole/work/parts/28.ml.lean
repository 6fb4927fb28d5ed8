/-! the machine does what the functions say (laid by wip/whole/gen) -/
abbrev rm_L_addGuard : Room := { frames := 7, cells := 1, slots := 6, locals := 102 }
theorem cf_L_addGuard : CFH yL_addGuard wsL_addGuard rm_L_addGuard cL_addGuard 3 (some .int) [(0, 8, 11, 13)] 2 1 6 := ⟨⟨_, rfl⟩, rfl, rfl, by decide, by decide, by decide +kernel⟩
set_option maxHeartbeats 4000000 in
set_option maxRecDepth 100000 in
theorem m_L_addGuard {l : Launch} (hfl : l.stackTraces = false) {D : va_G} {cyI cyZ cyJ : ClassId} {g : Nat} {h1 : Nat → Nat} {b1 : S2} {h2 : Nat → Nat} {b2 : S2} {z : Nat} {o : Nat → Int64} {rx : Int32} {rb1 : S2} {ro : Nat → Int64} (hf : L_addGuard b1 b2 o = some (rx, rb1, ro)) : Ct ev_s l yL_addGuard wsL_addGuard rm_L_addGuard D (ty3 cyI cyZ cyJ) [.ref g, .ref z] (wC g h1 h2 ++ (wB cyI h1 b1 ++ (wB cyI h2 b2 ++ wO cyJ z o))) (fun o => o = .inr (some (.int rx), wC g h1 h2 ++ (wB cyI h1 rb1 ++ (wB cyI h2 b2 ++ wO cyJ z ro)))) 1 6 := by
  refine ct_ofH (cc := cL_addGuard) (nL := 3) (own := RL) (ret := (some .int)) (hh := [(0, 8, 11, 13)]) hfl (by decide) rfl rfl (Nat.le_of_ble_eq_true rfl) (fun p e s m args below meth c A C hr hnm => ?_)
  refine g_setQ (fun Q hQ => ?_)
  have kw0 := Cx.w C (.classLink RL 13 (xn 1)) (by decide +kernel)
  unfold L_addGuard at hf
  refine g_lve (lv' := [(0, .ref g), (1, .ref z)]) rfl ?_
  refine g_aload_n C dL_addGuard_0 1 rfl 1 rfl ?_
  refine g_iconst C dL_addGuard_1 2 rfl ic_0 ?_
  refine g_aload_n C dL_addGuard_2 3 rfl 0 rfl ?_
  rcases bc2_s hf with ⟨ne4, e3, hf⟩ | ⟨x1, b1_2, e3, hf⟩
  · refine g_callVx C (m_X1_addGuard_x hfl (g := g) (h1 := h1) (h2 := h2) e3) cf_X1_addGuard gL_addGuard_X1_addGuard ⟨Nat.le_of_ble_eq_true rfl, Nat.le_of_ble_eq_true rfl⟩ (q0 := 0) (As := []) (rest := [.int 0, .ref z]) (wl := []) (wr := wO cyJ z o) (c2 := 1) (s2 := 6) rfl rfl rfl rfl rfl rfl (Nat.le_of_ble_eq_true rfl) rfl rfl ⟨Nat.le_of_ble_eq_true rfl, Nat.le_of_ble_eq_true rfl⟩ dL_addGuard_3 6 rfl ?_
    by_cases c8 : ne4 = 1
    · have hf := ifp c8 hf
      subst c8
      refine g_xcatch C [] ⟨0, 8, 11, 13⟩ [] rfl (fun z h => by cases h) (by decide) (by decide) kw0 (by decide) 11 rfl (fun z7 => ?_)
      refine g_astore_n C dL_addGuard_11 12 rfl (by decide) (lv' := [(2, .ref z7), (0, .ref g), (1, .ref z)]) rfl ?_
      refine g_iconst C dL_addGuard_12 13 rfl ic_1 ?_
      refine g_Q hQ ?_
      exact g_iret C hr (by cases hf; rfl) (Nat.le_of_ble_eq_true rfl) (Nat.le_of_ble_eq_true rfl) dL_addGuard_13
    · have hf := ifn c8 hf
      cases hf
  · refine g_callV1 C (m_X1_addGuard_r hfl (g := g) (h1 := h1) (h2 := h2) e3) cf_X1_addGuard gL_addGuard_X1_addGuard ⟨Nat.le_of_ble_eq_true rfl, Nat.le_of_ble_eq_true rfl⟩ (q0 := 0) (As := []) (rest := [.int 0, .ref z]) (wl := []) (wr := wO cyJ z o) (c2 := 1) (s2 := 6) rfl rfl rfl rfl rfl rfl (Nat.le_of_ble_eq_true rfl) rfl rfl ⟨Nat.le_of_ble_eq_true rfl, Nat.le_of_ble_eq_true rfl⟩ dL_addGuard_3 6 rfl (ws2 := wC g h1 h2 ++ (wB cyI h1 b1_2 ++ (wB cyI h2 b2 ++ wO cyJ z o))) rfl (st2 := [.int x1, .int 0, .ref z]) rfl ?_
    refine g_i2l C dL_addGuard_6 7 rfl ?_
    obtain ⟨o_6, e5, hf⟩ := bd1_s hf
    refine g_last C 23 2 rfl rfl (stL_in e5) (st_44 (cyI := cyI) (cyZ := cyZ) (cyJ := cyJ) e5) dL_addGuard_7 8 rfl ?_
    refine g_goto C dL_addGuard_8 14 (by decide) ?_
    refine g_iconst C dL_addGuard_14 15 rfl ic_0 ?_
    refine g_Q hQ ?_
    exact g_iret C hr (by cases hf; rfl) (Nat.le_of_ble_eq_true rfl) (Nat.le_of_ble_eq_true rfl) dL_addGuard_15
abbrev rm_L_arrive : Room := { frames := 8, cells := 5, slots := 30, locals := 126 }
theorem cf_L_arrive : CFH yL_arrive wsL_arrive rm_L_arrive cL_arrive 7 (some .int) [(0, 14, 17, 19), (0, 14, 21, 13)] 6 5 30 := ⟨⟨_, rfl⟩, rfl, rfl, by decide, by decide, by decide +kernel⟩
set_option maxHeartbeats 4000000 in
set_option maxRecDepth 100000 in
theorem m_L_arrive {l : Launch} (hfl : l.stackTraces = false) {D : va_G} {cyI cyZ cyJ : ClassId} {g : Nat} {h1 : Nat → Nat} {b1 : S2} {h2 : Nat → Nat} {b2 : S2} {z : Nat} {o : Nat → Int64} {a0 : Int32} {a1 : Int32} {a2 : Int32} {a3 : Int32} {rx : Int32} {rb1 : S2} {ro : Nat → Int64} (hf : L_arrive b1 b2 o a0 a1 a2 a3 = some (rx, rb1, ro)) : Ct ev_s l yL_arrive wsL_arrive rm_L_arrive D (ty3 cyI cyZ cyJ) [.ref g, .int a0, .int a1, .int a2, .int a3, .ref z] (wC g h1 h2 ++ (wB cyI h1 b1 ++ (wB cyI h2 b2 ++ wO cyJ z o))) (fun o => o = .inr (some (.int rx), wC g h1 h2 ++ (wB cyI h1 rb1 ++ (wB cyI h2 b2 ++ wO cyJ z ro)))) 5 30 := by
  refine ct_ofH (cc := cL_arrive) (nL := 7) (own := RL) (ret := (some .int)) (hh := [(0, 14, 17, 19), (0, 14, 21, 13)]) hfl (by decide) rfl rfl (Nat.le_of_ble_eq_true rfl) (fun p e s m args below meth c A C hr hnm => ?_)
  refine g_setQ (fun Q hQ => ?_)
  have kw0 := Cx.w C (.classLink RL 19 (xn 2)) (by decide +kernel)
  have kw1 := Cx.w C (.classLink RL 13 (xn 1)) (by decide +kernel)
  unfold L_arrive at hf
  refine g_lve (lv' := [(0, .ref g), (1, .int a0), (2, .int a1), (3, .int a2), (4, .int a3), (5, .ref z)]) rfl ?_
  refine g_aload C dL_arrive_0 2 rfl 5 rfl ?_
  refine g_iconst C dL_arrive_2 3 rfl ic_0 ?_
  refine g_aload_n C dL_arrive_3 4 rfl 0 rfl ?_
  refine g_iload_n C dL_arrive_4 5 rfl 1 rfl ?_
  refine g_iload_n C dL_arrive_5 6 rfl 2 rfl ?_
  refine g_iload_n C dL_arrive_6 7 rfl 3 rfl ?_
  refine g_iload C dL_arrive_7 9 rfl 4 rfl ?_
  rcases bc2_s hf with ⟨ne4, e3, hf⟩ | ⟨x1, b1_2, e3, hf⟩
  · refine g_callVx C (m_X1_arrive_x hfl (g := g) (h1 := h1) (h2 := h2) e3) cf_X1_arrive gL_arrive_X1_arrive ⟨Nat.le_of_ble_eq_true rfl, Nat.le_of_ble_eq_true rfl⟩ (q0 := 0) (As := [.int a0, .int a1, .int a2, .int a3]) (rest := [.int 0, .ref z]) (wl := []) (wr := wO cyJ z o) (c2 := 5) (s2 := 30) rfl rfl rfl rfl rfl rfl (Nat.le_of_ble_eq_true rfl) rfl rfl ⟨Nat.le_of_ble_eq_true rfl, Nat.le_of_ble_eq_true rfl⟩ dL_arrive_9 12 rfl ?_
    by_cases c8 : ne4 = 2
    · have hf := ifp c8 hf
      subst c8
      refine g_xcatch C [] ⟨0, 14, 17, 19⟩ [⟨0, 14, 21, 13⟩] rfl (fun z h => by cases h) (by decide) (by decide) kw0 (by decide) 17 rfl (fun z7 => ?_)
      refine g_astore C dL_arrive_17 19 rfl (by decide) (lv' := [(6, .ref z7), (0, .ref g), (1, .int a0), (2, .int a1), (3, .int a2), (4, .int a3), (5, .ref z)]) rfl ?_
      refine g_iconst C dL_arrive_19 20 rfl ic_1 ?_
      refine g_Q hQ ?_
      exact g_iret C hr (by cases hf; rfl) (Nat.le_of_ble_eq_true rfl) (Nat.le_of_ble_eq_true rfl) dL_arrive_20
    · have hf := ifn c8 hf
      by_cases c9 : ne4 = 1
      · have hf := ifp c9 hf
        subst c9
        refine g_xcatch C [⟨0, 14, 17, 19⟩] ⟨0, 14, 21, 13⟩ [] rfl (List.forall_mem_cons.mpr ⟨⟨by decide, xn 2, kw0, by decide⟩, fun z h => by cases h⟩) (by decide) (by decide) kw1 (by decide) 21 rfl (fun z7 => ?_)
        refine g_astore C dL_arrive_21 23 rfl (by decide) (lv' := [(6, .ref z7), (0, .ref g), (1, .int a0), (2, .int a1), (3, .int a2), (4, .int a3), (5, .ref z)]) rfl ?_
        refine g_iconst C dL_arrive_23 24 rfl ic_2 ?_
        refine g_Q hQ ?_
        exact g_iret C hr (by cases hf; rfl) (Nat.le_of_ble_eq_true rfl) (Nat.le_of_ble_eq_true rfl) dL_arrive_24
      · have hf := ifn c9 hf
        cases hf
  · refine g_callV1 C (m_X1_arrive_r hfl (g := g) (h1 := h1) (h2 := h2) e3) cf_X1_arrive gL_arrive_X1_arrive ⟨Nat.le_of_ble_eq_true rfl, Nat.le_of_ble_eq_true rfl⟩ (q0 := 0) (As := [.int a0, .int a1, .int a2, .int a3]) (rest := [.int 0, .ref z]) (wl := []) (wr := wO cyJ z o) (c2 := 5) (s2 := 30) rfl rfl rfl rfl rfl rfl (Nat.le_of_ble_eq_true rfl) rfl rfl ⟨Nat.le_of_ble_eq_true rfl, Nat.le_of_ble_eq_true rfl⟩ dL_arrive_9 12 rfl (ws2 := wC g h1 h2 ++ (wB cyI h1 b1_2 ++ (wB cyI h2 b2 ++ wO cyJ z o))) rfl (st2 := [.int x1, .int 0, .ref z]) rfl ?_
    refine g_i2l C dL_arrive_12 13 rfl ?_
    obtain ⟨o_6, e5, hf⟩ := bd1_s hf
    refine g_last C 23 2 rfl rfl (stL_in e5) (st_44 (cyI := cyI) (cyZ := cyZ) (cyJ := cyJ) e5) dL_arrive_13 14 rfl ?_
    refine g_goto C dL_arrive_14 25 (by decide) ?_
    refine g_iconst C dL_arrive_25 26 rfl ic_0 ?_
    refine g_Q hQ ?_
    exact g_iret C hr (by cases hf; rfl) (Nat.le_of_ble_eq_true rfl) (Nat.le_of_ble_eq_true rfl) dL_arrive_26
abbrev rm_L_declare : Room := { frames := 8, cells := 3, slots := 18, locals := 126 }
theorem cf_L_declare : CFH yL_declare wsL_declare rm_L_declare cL_declare 5 (some .int) [(0, 10, 13, 25), (0, 10, 17, 19), (0, 10, 21, 13)] 4 3 18 := ⟨⟨_, rfl⟩, rfl, rfl, by decide, by decide, by decide +kernel⟩
set_option maxHeartbeats 4000000 in
set_option maxRecDepth 100000 in
theorem m_L_declare {l : Launch} (hfl : l.stackTraces = false) {D : va_G} {cyI cyZ cyJ : ClassId} {g : Nat} {h1 : Nat → Nat} {b1 : S2} {h2 : Nat → Nat} {b2 : S2} {z : Nat} {o : Nat → Int64} {a0 : Int32} {a1 : Int32} {rx : Int32} {rb1 : S2} {ro : Nat → Int64} (hf : L_declare b1 b2 o a0 a1 = some (rx, rb1, ro)) : Ct ev_s l yL_declare wsL_declare rm_L_declare D (ty3 cyI cyZ cyJ) [.ref g, .int a0, .int a1, .ref z] (wC g h1 h2 ++ (wB cyI h1 b1 ++ (wB cyI h2 b2 ++ wO cyJ z o))) (fun o => o = .inr (some (.int rx), wC g h1 h2 ++ (wB cyI h1 rb1 ++ (wB cyI h2 b2 ++ wO cyJ z ro)))) 3 18 := by
  refine ct_ofH (cc := cL_declare) (nL := 5) (own := RL) (ret := (some .int)) (hh := [(0, 10, 13, 25), (0, 10, 17, 19), (0, 10, 21, 13)]) hfl (by decide) rfl rfl (Nat.le_of_ble_eq_true rfl) (fun p e s m args below meth c A C hr hnm => ?_)
  refine g_setQ (fun Q hQ => ?_)
  have kw0 := Cx.w C (.classLink RL 25 (xn 3)) (by decide +kernel)
  have kw1 := Cx.w C (.classLink RL 19 (xn 2)) (by decide +kernel)
  have kw2 := Cx.w C (.classLink RL 13 (xn 1)) (by decide +kernel)
  unfold L_declare at hf
  refine g_lve (lv' := [(0, .ref g), (1, .int a0), (2, .int a1), (3, .ref z)]) rfl ?_
  refine g_aload_n C dL_declare_0 1 rfl 3 rfl ?_
  refine g_iconst C dL_declare_1 2 rfl ic_0 ?_
  refine g_aload_n C dL_declare_2 3 rfl 0 rfl ?_
  refine g_iload_n C dL_declare_3 4 rfl 1 rfl ?_
  refine g_iload_n C dL_declare_4 5 rfl 2 rfl ?_
  rcases bc2_s hf with ⟨ne4, e3, hf⟩ | ⟨x1, b1_2, e3, hf⟩
  · refine g_callVx C (m_X1_declare_x hfl (g := g) (h1 := h1) (h2 := h2) e3) cf_X1_declare gL_declare_X1_declare ⟨Nat.le_of_ble_eq_true rfl, Nat.le_of_ble_eq_true rfl⟩ (q0 := 0) (As := [.int a0, .int a1]) (rest := [.int 0, .ref z]) (wl := []) (wr := wO cyJ z o) (c2 := 3) (s2 := 18) rfl rfl rfl rfl rfl rfl (Nat.le_of_ble_eq_true rfl) rfl rfl ⟨Nat.le_of_ble_eq_true rfl, Nat.le_of_ble_eq_true rfl⟩ dL_declare_5 8 rfl ?_
    by_cases c8 : ne4 = 3
    · have hf := ifp c8 hf
      subst c8
      refine g_xcatch C [] ⟨0, 10, 13, 25⟩ [⟨0, 10, 17, 19⟩, ⟨0, 10, 21, 13⟩] rfl (fun z h => by cases h) (by decide) (by decide) kw0 (by decide) 13 rfl (fun z7 => ?_)
      refine g_astore C dL_declare_13 15 rfl (by decide) (lv' := [(4, .ref z7), (0, .ref g), (1, .int a0), (2, .int a1), (3, .ref z)]) rfl ?_
      refine g_iconst C dL_declare_15 16 rfl ic_1 ?_
      refine g_Q hQ ?_
      exact g_iret C hr (by cases hf; rfl) (Nat.le_of_ble_eq_true rfl) (Nat.le_of_ble_eq_true rfl) dL_declare_16
    · have hf := ifn c8 hf
      by_cases c9 : ne4 = 2
      · have hf := ifp c9 hf
        subst c9
        refine g_xcatch C [⟨0, 10, 13, 25⟩] ⟨0, 10, 17, 19⟩ [⟨0, 10, 21, 13⟩] rfl (List.forall_mem_cons.mpr ⟨⟨by decide, xn 3, kw0, by decide⟩, fun z h => by cases h⟩) (by decide) (by decide) kw1 (by decide) 17 rfl (fun z7 => ?_)
        refine g_astore C dL_declare_17 19 rfl (by decide) (lv' := [(4, .ref z7), (0, .ref g), (1, .int a0), (2, .int a1), (3, .ref z)]) rfl ?_
        refine g_iconst C dL_declare_19 20 rfl ic_2 ?_
        refine g_Q hQ ?_
        exact g_iret C hr (by cases hf; rfl) (Nat.le_of_ble_eq_true rfl) (Nat.le_of_ble_eq_true rfl) dL_declare_20
      · have hf := ifn c9 hf
        by_cases c10 : ne4 = 1
        · have hf := ifp c10 hf
          subst c10
          refine g_xcatch C [⟨0, 10, 13, 25⟩, ⟨0, 10, 17, 19⟩] ⟨0, 10, 21, 13⟩ [] rfl (List.forall_mem_cons.mpr ⟨⟨by decide, xn 3, kw0, by decide⟩, List.forall_mem_cons.mpr ⟨⟨by decide, xn 2, kw1, by decide⟩, fun z h => by cases h⟩⟩) (by decide) (by decide) kw2 (by decide) 21 rfl (fun z7 => ?_)
          refine g_astore C dL_declare_21 23 rfl (by decide) (lv' := [(4, .ref z7), (0, .ref g), (1, .int a0), (2, .int a1), (3, .ref z)]) rfl ?_
          refine g_iconst C dL_declare_23 24 rfl ic_3 ?_
          refine g_Q hQ ?_
          exact g_iret C hr (by cases hf; rfl) (Nat.le_of_ble_eq_true rfl) (Nat.le_of_ble_eq_true rfl) dL_declare_24
        · have hf := ifn c10 hf
          cases hf
  · refine g_callV1 C (m_X1_declare_r hfl (g := g) (h1 := h1) (h2 := h2) e3) cf_X1_declare gL_declare_X1_declare ⟨Nat.le_of_ble_eq_true rfl, Nat.le_of_ble_eq_true rfl⟩ (q0 := 0) (As := [.int a0, .int a1]) (rest := [.int 0, .ref z]) (wl := []) (wr := wO cyJ z o) (c2 := 3) (s2 := 18) rfl rfl rfl rfl rfl rfl (Nat.le_of_ble_eq_true rfl) rfl rfl ⟨Nat.le_of_ble_eq_true rfl, Nat.le_of_ble_eq_true rfl⟩ dL_declare_5 8 rfl (ws2 := wC g h1 h2 ++ (wB cyI h1 b1_2 ++ (wB cyI h2 b2 ++ wO cyJ z o))) rfl (st2 := [.int x1, .int 0, .ref z]) rfl ?_
    refine g_i2l C dL_declare_8 9 rfl ?_
    obtain ⟨o_6, e5, hf⟩ := bd1_s hf
    refine g_last C 23 2 rfl rfl (stL_in e5) (st_44 (cyI := cyI) (cyZ := cyZ) (cyJ := cyJ) e5) dL_declare_9 10 rfl ?_
    refine g_goto C dL_declare_10 25 (by decide) ?_
    refine g_iconst C dL_declare_25 26 rfl ic_0 ?_
    refine g_Q hQ ?_
    exact g_iret C hr (by cases hf; rfl) (Nat.le_of_ble_eq_true rfl) (Nat.le_of_ble_eq_true rfl) dL_declare_26
abbrev rm_L_sing : Room := { frames := 8, cells := 3, slots := 18, locals := 126 }
theorem cf_L_sing : CFH yL_sing wsL_sing rm_L_sing cL_sing 5 (some .int) [(0, 10, 13, 25), (0, 10, 17, 19), (0, 10, 21, 13)] 4 3 18 := ⟨⟨_, rfl⟩, rfl, rfl, by decide, by decide, by decide +kernel⟩
set_option maxHeartbeats 4000000 in
set_option maxRecDepth 100000 in
theorem m_L_sing {l : Launch} (hfl : l.stackTraces = false) {D : va_G} {cyI cyZ cyJ : ClassId} {g : Nat} {h1 : Nat → Nat} {b1 : S2} {h2 : Nat → Nat} {b2 : S2} {z : Nat} {o : Nat → Int64} {a0 : Int32} {a1 : Int32} {rx : Int32} {rb1 : S2} {ro : Nat → Int64} (hf : L_sing b1 b2 o a0 a1 = some (rx, rb1, ro)) : Ct ev_s l yL_sing wsL_sing rm_L_sing D (ty3 cyI cyZ cyJ) [.ref g, .int a0, .int a1, .ref z] (wC g h1 h2 ++ (wB cyI h1 b1 ++ (wB cyI h2 b2 ++ wO cyJ z o))) (fun o => o = .inr (some (.int rx), wC g h1 h2 ++ (wB cyI h1 rb1 ++ (wB cyI h2 b2 ++ wO cyJ z ro)))) 3 18 := by
  refine ct_ofH (cc := cL_sing) (nL := 5) (own := RL) (ret := (some .int)) (hh := [(0, 10, 13, 25), (0, 10, 17, 19), (0, 10, 21, 13)]) hfl (by decide) rfl rfl (Nat.le_of_ble_eq_true rfl) (fun p e s m args below meth c A C hr hnm => ?_)
  refine g_setQ (fun Q hQ => ?_)
  have kw0 := Cx.w C (.classLink RL 25 (xn 3)) (by decide +kernel)
  have kw1 := Cx.w C (.classLink RL 19 (xn 2)) (by decide +kernel)
  have kw2 := Cx.w C (.classLink RL 13 (xn 1)) (by decide +kernel)
  unfold L_sing at hf
  refine g_lve (lv' := [(0, .ref g), (1, .int a0), (2, .int a1), (3, .ref z)]) rfl ?_
  refine g_aload_n C dL_sing_0 1 rfl 3 rfl ?_
  refine g_iconst C dL_sing_1 2 rfl ic_0 ?_
  refine g_aload_n C dL_sing_2 3 rfl 0 rfl ?_
  refine g_iload_n C dL_sing_3 4 rfl 1 rfl ?_
  refine g_iload_n C dL_sing_4 5 rfl 2 rfl ?_
  rcases bc2_s hf with ⟨ne4, e3, hf⟩ | ⟨x1, b1_2, e3, hf⟩
  · refine g_callVx C (m_X1_sing_x hfl (g := g) (h1 := h1) (h2 := h2) e3) cf_X1_sing gL_sing_X1_sing ⟨Nat.le_of_ble_eq_true rfl, Nat.le_of_ble_eq_true rfl⟩ (q0 := 0) (As := [.int a0, .int a1]) (rest := [.int 0, .ref z]) (wl := []) (wr := wO cyJ z o) (c2 := 3) (s2 := 18) rfl rfl rfl rfl rfl rfl (Nat.le_of_ble_eq_true rfl) rfl rfl ⟨Nat.le_of_ble_eq_true rfl, Nat.le_of_ble_eq_true rfl⟩ dL_sing_5 8 rfl ?_
    by_cases c8 : ne4 = 3
    · have hf := ifp c8 hf
      subst c8
      refine g_xcatch C [] ⟨0, 10, 13, 25⟩ [⟨0, 10, 17, 19⟩, ⟨0, 10, 21, 13⟩] rfl (fun z h => by cases h) (by decide) (by decide) kw0 (by decide) 13 rfl (fun z7 => ?_)
      refine g_astore C dL_sing_13 15 rfl (by decide) (lv' := [(4, .ref z7), (0, .ref g), (1, .int a0), (2, .int a1), (3, .ref z)]) rfl ?_
      refine g_iconst C dL_sing_15 16 rfl ic_1 ?_
      refine g_Q hQ ?_
      exact g_iret C hr (by cases hf; rfl) (Nat.le_of_ble_eq_true rfl) (Nat.le_of_ble_eq_true rfl) dL_sing_16
    · have hf := ifn c8 hf
      by_cases c9 : ne4 = 2
      · have hf := ifp c9 hf
        subst c9
        refine g_xcatch C [⟨0, 10, 13, 25⟩] ⟨0, 10, 17, 19⟩ [⟨0, 10, 21, 13⟩] rfl (List.forall_mem_cons.mpr ⟨⟨by decide, xn 3, kw0, by decide⟩, fun z h => by cases h⟩) (by decide) (by decide) kw1 (by decide) 17 rfl (fun z7 => ?_)
        refine g_astore C dL_sing_17 19 rfl (by decide) (lv' := [(4, .ref z7), (0, .ref g), (1, .int a0), (2, .int a1), (3, .ref z)]) rfl ?_
        refine g_iconst C dL_sing_19 20 rfl ic_2 ?_
        refine g_Q hQ ?_
        exact g_iret C hr (by cases hf; rfl) (Nat.le_of_ble_eq_true rfl) (Nat.le_of_ble_eq_true rfl) dL_sing_20
      · have hf := ifn c9 hf
        by_cases c10 : ne4 = 1
        · have hf := ifp c10 hf
          subst c10
          refine g_xcatch C [⟨0, 10, 13, 25⟩, ⟨0, 10, 17, 19⟩] ⟨0, 10, 21, 13⟩ [] rfl (List.forall_mem_cons.mpr ⟨⟨by decide, xn 3, kw0, by decide⟩, List.forall_mem_cons.mpr ⟨⟨by decide, xn 2, kw1, by decide⟩, fun z h => by cases h⟩⟩) (by decide) (by decide) kw2 (by decide) 21 rfl (fun z7 => ?_)
          refine g_astore C dL_sing_21 23 rfl (by decide) (lv' := [(4, .ref z7), (0, .ref g), (1, .int a0), (2, .int a1), (3, .ref z)]) rfl ?_
          refine g_iconst C dL_sing_23 24 rfl ic_3 ?_
          refine g_Q hQ ?_
          exact g_iret C hr (by cases hf; rfl) (Nat.le_of_ble_eq_true rfl) (Nat.le_of_ble_eq_true rfl) dL_sing_24
        · have hf := ifn c10 hf
          cases hf
  · refine g_callV1 C (m_X1_sing_r hfl (g := g) (h1 := h1) (h2 := h2) e3) cf_X1_sing gL_sing_X1_sing ⟨Nat.le_of_ble_eq_true rfl, Nat.le_of_ble_eq_true rfl⟩ (q0 := 0) (As := [.int a0, .int a1]) (rest := [.int 0, .ref z]) (wl := []) (wr := wO cyJ z o) (c2 := 3) (s2 := 18) rfl rfl rfl rfl rfl rfl (Nat.le_of_ble_eq_true rfl) rfl rfl ⟨Nat.le_of_ble_eq_true rfl, Nat.le_of_ble_eq_true rfl⟩ dL_sing_5 8 rfl (ws2 := wC g h1 h2 ++ (wB cyI h1 b1_2 ++ (wB cyI h2 b2 ++ wO cyJ z o))) rfl (st2 := [.int x1, .int 0, .ref z]) rfl ?_
    refine g_i2l C dL_sing_8 9 rfl ?_
    obtain ⟨o_6, e5, hf⟩ := bd1_s hf
    refine g_last C 23 2 rfl rfl (stL_in e5) (st_44 (cyI := cyI) (cyZ := cyZ) (cyJ := cyJ) e5) dL_sing_9 10 rfl ?_
    refine g_goto C dL_sing_10 25 (by decide) ?_
    refine g_iconst C dL_sing_25 26 rfl ic_0 ?_
    refine g_Q hQ ?_
    exact g_iret C hr (by cases hf; rfl) (Nat.le_of_ble_eq_true rfl) (Nat.le_of_ble_eq_true rfl) dL_sing_26
abbrev rm_L_wake : Room := { frames := 8, cells := 1, slots := 6, locals := 125 }
theorem cf_L_wake : CFH yL_wake wsL_wake rm_L_wake cL_wake 4 (some .int) [(0, 9, 12, 25)] 3 1 6 := ⟨⟨_, rfl⟩, rfl, rfl, by decide, by decide, by decide +kernel⟩
set_option maxHeartbeats 4000000 in
set_option maxRecDepth 100000 in
theorem m_L_wake {l : Launch} (hfl : l.stackTraces = false) {D : va_G} {cyI cyZ cyJ : ClassId} {g : Nat} {h1 : Nat → Nat} {b1 : S2} {h2 : Nat → Nat} {b2 : S2} {z : Nat} {o : Nat → Int64} {a0 : Int32} {rx : Int32} {rb1 : S2} {ro : Nat → Int64} (hf : L_wake b1 b2 o a0 = some (rx, rb1, ro)) : Ct ev_s l yL_wake wsL_wake rm_L_wake D (ty3 cyI cyZ cyJ) [.ref g, .int a0, .ref z] (wC g h1 h2 ++ (wB cyI h1 b1 ++ (wB cyI h2 b2 ++ wO cyJ z o))) (fun o => o = .inr (some (.int rx), wC g h1 h2 ++ (wB cyI h1 rb1 ++ (wB cyI h2 b2 ++ wO cyJ z ro)))) 1 6 := by
  refine ct_ofH (cc := cL_wake) (nL := 4) (own := RL) (ret := (some .int)) (hh := [(0, 9, 12, 25)]) hfl (by decide) rfl rfl (Nat.le_of_ble_eq_true rfl) (fun p e s m args below meth c A C hr hnm => ?_)
  refine g_setQ (fun Q hQ => ?_)
  have kw0 := Cx.w C (.classLink RL 25 (xn 3)) (by decide +kernel)
  unfold L_wake at hf
  refine g_lve (lv' := [(0, .ref g), (1, .int a0), (2, .ref z)]) rfl ?_
  refine g_aload_n C dL_wake_0 1 rfl 2 rfl ?_
  refine g_iconst C dL_wake_1 2 rfl ic_0 ?_
  refine g_aload_n C dL_wake_2 3 rfl 0 rfl ?_
  refine g_iload_n C dL_wake_3 4 rfl 1 rfl ?_
  rcases bc2_s hf with ⟨ne4, e3, hf⟩ | ⟨x1, b1_2, e3, hf⟩
  · refine g_callVx C (m_X1_wake_x hfl (g := g) (h1 := h1) (h2 := h2) e3) cf_X1_wake gL_wake_X1_wake ⟨Nat.le_of_ble_eq_true rfl, Nat.le_of_ble_eq_true rfl⟩ (q0 := 0) (As := [.int a0]) (rest := [.int 0, .ref z]) (wl := []) (wr := wO cyJ z o) (c2 := 1) (s2 := 6) rfl rfl rfl rfl rfl rfl (Nat.le_of_ble_eq_true rfl) rfl rfl ⟨Nat.le_of_ble_eq_true rfl, Nat.le_of_ble_eq_true rfl⟩ dL_wake_4 7 rfl ?_
    by_cases c8 : ne4 = 3
    · have hf := ifp c8 hf
      subst c8
      refine g_xcatch C [] ⟨0, 9, 12, 25⟩ [] rfl (fun z h => by cases h) (by decide) (by decide) kw0 (by decide) 12 rfl (fun z7 => ?_)
      refine g_astore_n C dL_wake_12 13 rfl (by decide) (lv' := [(3, .ref z7), (0, .ref g), (1, .int a0), (2, .ref z)]) rfl ?_
      refine g_iconst C dL_wake_13 14 rfl ic_1 ?_
      refine g_Q hQ ?_
      exact g_iret C hr (by cases hf; rfl) (Nat.le_of_ble_eq_true rfl) (Nat.le_of_ble_eq_true rfl) dL_wake_14
    · have hf := ifn c8 hf
      cases hf
  · refine g_callV1 C (m_X1_wake_r hfl (g := g) (h1 := h1) (h2 := h2) e3) cf_X1_wake gL_wake_X1_wake ⟨Nat.le_of_ble_eq_true rfl, Nat.le_of_ble_eq_true rfl⟩ (q0 := 0) (As := [.int a0]) (rest := [.int 0, .ref z]) (wl := []) (wr := wO cyJ z o) (c2 := 1) (s2 := 6) rfl rfl rfl rfl rfl rfl (Nat.le_of_ble_eq_true rfl) rfl rfl ⟨Nat.le_of_ble_eq_true rfl, Nat.le_of_ble_eq_true rfl⟩ dL_wake_4 7 rfl (ws2 := wC g h1 h2 ++ (wB cyI h1 b1_2 ++ (wB cyI h2 b2 ++ wO cyJ z o))) rfl (st2 := [.int x1, .int 0, .ref z]) rfl ?_
    refine g_i2l C dL_wake_7 8 rfl ?_
    obtain ⟨o_6, e5, hf⟩ := bd1_s hf
    refine g_last C 23 2 rfl rfl (stL_in e5) (st_44 (cyI := cyI) (cyZ := cyZ) (cyJ := cyJ) e5) dL_wake_8 9 rfl ?_
    refine g_goto C dL_wake_9 15 (by decide) ?_
    refine g_iconst C dL_wake_15 16 rfl ic_0 ?_
    refine g_Q hQ ?_
    exact g_iret C hr (by cases hf; rfl) (Nat.le_of_ble_eq_true rfl) (Nat.le_of_ble_eq_true rfl) dL_wake_16
abbrev rm_L_pass : Room := { frames := 8, cells := 1, slots := 6, locals := 125 }
theorem cf_L_pass : CFH yL_pass wsL_pass rm_L_pass cL_pass 4 (some .int) [(0, 9, 12, 19)] 3 1 6 := ⟨⟨_, rfl⟩, rfl, rfl, by decide, by decide, by decide +kernel⟩
set_option maxHeartbeats 4000000 in
set_option maxRecDepth 100000 in
theorem m_L_pass {l : Launch} (hfl : l.stackTraces = false) {D : va_G} {cyI cyZ cyJ : ClassId} {g : Nat} {h1 : Nat → Nat} {b1 : S2} {h2 : Nat → Nat} {b2 : S2} {z : Nat} {o : Nat → Int64} {a0 : Int32} {rx : Int32} {rb1 : S2} {ro : Nat → Int64} (hf : L_pass b1 b2 o a0 = some (rx, rb1, ro)) : Ct ev_s l yL_pass wsL_pass rm_L_pass D (ty3 cyI cyZ cyJ) [.ref g, .int a0, .ref z] (wC g h1 h2 ++ (wB cyI h1 b1 ++ (wB cyI h2 b2 ++ wO cyJ z o))) (fun o => o = .inr (some (.int rx), wC g h1 h2 ++ (wB cyI h1 rb1 ++ (wB cyI h2 b2 ++ wO cyJ z ro)))) 1 6 := by
  refine ct_ofH (cc := cL_pass) (nL := 4) (own := RL) (ret := (some .int)) (hh := [(0, 9, 12, 19)]) hfl (by decide) rfl rfl (Nat.le_of_ble_eq_true rfl) (fun p e s m args below meth c A C hr hnm => ?_)
  refine g_setQ (fun Q hQ => ?_)
  have kw0 := Cx.w C (.classLink RL 19 (xn 2)) (by decide +kernel)
  unfold L_pass at hf
  refine g_lve (lv' := [(0, .ref g), (1, .int a0), (2, .ref z)]) rfl ?_
  refine g_aload_n C dL_pass_0 1 rfl 2 rfl ?_
  refine g_iconst C dL_pass_1 2 rfl ic_0 ?_
  refine g_aload_n C dL_pass_2 3 rfl 0 rfl ?_
  refine g_iload_n C dL_pass_3 4 rfl 1 rfl ?_
  rcases bc2_s hf with ⟨ne4, e3, hf⟩ | ⟨x1, b1_2, e3, hf⟩
  · refine g_callVx C (m_X1_pass_x hfl (g := g) (h1 := h1) (h2 := h2) e3) cf_X1_pass gL_pass_X1_pass ⟨Nat.le_of_ble_eq_true rfl, Nat.le_of_ble_eq_true rfl⟩ (q0 := 0) (As := [.int a0]) (rest := [.int 0, .ref z]) (wl := []) (wr := wO cyJ z o) (c2 := 1) (s2 := 6) rfl rfl rfl rfl rfl rfl (Nat.le_of_ble_eq_true rfl) rfl rfl ⟨Nat.le_of_ble_eq_true rfl, Nat.le_of_ble_eq_true rfl⟩ dL_pass_4 7 rfl ?_
    by_cases c8 : ne4 = 2
    · have hf := ifp c8 hf
      subst c8
      refine g_xcatch C [] ⟨0, 9, 12, 19⟩ [] rfl (fun z h => by cases h) (by decide) (by decide) kw0 (by decide) 12 rfl (fun z7 => ?_)
      refine g_astore_n C dL_pass_12 13 rfl (by decide) (lv' := [(3, .ref z7), (0, .ref g), (1, .int a0), (2, .ref z)]) rfl ?_
      refine g_iconst C dL_pass_13 14 rfl ic_1 ?_
      refine g_Q hQ ?_
      exact g_iret C hr (by cases hf; rfl) (Nat.le_of_ble_eq_true rfl) (Nat.le_of_ble_eq_true rfl) dL_pass_14
    · have hf := ifn c8 hf
      cases hf
  · refine g_callV1 C (m_X1_pass_r hfl (g := g) (h1 := h1) (h2 := h2) e3) cf_X1_pass gL_pass_X1_pass ⟨Nat.le_of_ble_eq_true rfl, Nat.le_of_ble_eq_true rfl⟩ (q0 := 0) (As := [.int a0]) (rest := [.int 0, .ref z]) (wl := []) (wr := wO cyJ z o) (c2 := 1) (s2 := 6) rfl rfl rfl rfl rfl rfl (Nat.le_of_ble_eq_true rfl) rfl rfl ⟨Nat.le_of_ble_eq_true rfl, Nat.le_of_ble_eq_true rfl⟩ dL_pass_4 7 rfl (ws2 := wC g h1 h2 ++ (wB cyI h1 b1_2 ++ (wB cyI h2 b2 ++ wO cyJ z o))) rfl (st2 := [.int x1, .int 0, .ref z]) rfl ?_
    refine g_i2l C dL_pass_7 8 rfl ?_
    obtain ⟨o_6, e5, hf⟩ := bd1_s hf
    refine g_last C 23 2 rfl rfl (stL_in e5) (st_44 (cyI := cyI) (cyZ := cyZ) (cyJ := cyJ) e5) dL_pass_8 9 rfl ?_
    refine g_goto C dL_pass_9 15 (by decide) ?_
    refine g_iconst C dL_pass_15 16 rfl ic_0 ?_
    refine g_Q hQ ?_
    exact g_iret C hr (by cases hf; rfl) (Nat.le_of_ble_eq_true rfl) (Nat.le_of_ble_eq_true rfl) dL_pass_16
abbrev rm_L_stateOf : Room := { frames := 8, cells := 1, slots := 6, locals := 124 }
theorem cf_L_stateOf : CFH yL_stateOf wsL_stateOf rm_L_stateOf cL_stateOf 4 (some .int) [(0, 9, 12, 25)] 3 1 6 := ⟨⟨_, rfl⟩, rfl, rfl, by decide, by decide, by decide +kernel⟩
set_option maxHeartbeats 4000000 in
set_option maxRecDepth 100000 in
theorem m_L_stateOf {l : Launch} (hfl : l.stackTraces = false) {D : va_G} {cyI cyZ cyJ : ClassId} {g : Nat} {h1 : Nat → Nat} {b1 : S2} {h2 : Nat → Nat} {b2 : S2} {z : Nat} {o : Nat → Int64} {a0 : Int32} {rx : Int32} {ro : Nat → Int64} (hf : L_stateOf b1 b2 o a0 = some (rx, ro)) : Ct ev_s l yL_stateOf wsL_stateOf rm_L_stateOf D (ty3 cyI cyZ cyJ) [.ref g, .int a0, .ref z] (wC g h1 h2 ++ (wB cyI h1 b1 ++ (wB cyI h2 b2 ++ wO cyJ z o))) (fun o => o = .inr (some (.int rx), wC g h1 h2 ++ (wB cyI h1 b1 ++ (wB cyI h2 b2 ++ wO cyJ z ro)))) 1 6 := by
  refine ct_ofH (cc := cL_stateOf) (nL := 4) (own := RL) (ret := (some .int)) (hh := [(0, 9, 12, 25)]) hfl (by decide) rfl rfl (Nat.le_of_ble_eq_true rfl) (fun p e s m args below meth c A C hr hnm => ?_)
  refine g_setQ (fun Q hQ => ?_)
  have kw0 := Cx.w C (.classLink RL 25 (xn 3)) (by decide +kernel)
  unfold L_stateOf at hf
  refine g_lve (lv' := [(0, .ref g), (1, .int a0), (2, .ref z)]) rfl ?_
  refine g_aload_n C dL_stateOf_0 1 rfl 2 rfl ?_
  refine g_iconst C dL_stateOf_1 2 rfl ic_0 ?_
  refine g_aload_n C dL_stateOf_2 3 rfl 0 rfl ?_
  refine g_iload_n C dL_stateOf_3 4 rfl 1 rfl ?_
  rcases bc1_s hf with ⟨ne3, e2, hf⟩ | ⟨x1, e2, hf⟩
  · refine g_callVx C (m_X1_stateOf_x hfl (g := g) (h1 := h1) (h2 := h2) e2) cf_X1_stateOf gL_stateOf_X1_stateOf ⟨Nat.le_of_ble_eq_true rfl, Nat.le_of_ble_eq_true rfl⟩ (q0 := 0) (As := [.int a0]) (rest := [.int 0, .ref z]) (wl := []) (wr := wO cyJ z o) (c2 := 1) (s2 := 6) rfl rfl rfl rfl rfl rfl (Nat.le_of_ble_eq_true rfl) rfl rfl ⟨Nat.le_of_ble_eq_true rfl, Nat.le_of_ble_eq_true rfl⟩ dL_stateOf_4 7 rfl ?_
    by_cases c7 : ne3 = 3
    · have hf := ifp c7 hf
      subst c7
      refine g_xcatch C [] ⟨0, 9, 12, 25⟩ [] rfl (fun z h => by cases h) (by decide) (by decide) kw0 (by decide) 12 rfl (fun z6 => ?_)
      refine g_astore_n C dL_stateOf_12 13 rfl (by decide) (lv' := [(3, .ref z6), (0, .ref g), (1, .int a0), (2, .ref z)]) rfl ?_
      refine g_iconst C dL_stateOf_13 14 rfl ic_1 ?_
      refine g_Q hQ ?_
      exact g_iret C hr (by cases hf; rfl) (Nat.le_of_ble_eq_true rfl) (Nat.le_of_ble_eq_true rfl) dL_stateOf_14
    · have hf := ifn c7 hf
      cases hf
  · refine g_callV1 C (m_X1_stateOf_r hfl (g := g) (h1 := h1) (h2 := h2) e2) cf_X1_stateOf gL_stateOf_X1_stateOf ⟨Nat.le_of_ble_eq_true rfl, Nat.le_of_ble_eq_true rfl⟩ (q0 := 0) (As := [.int a0]) (rest := [.int 0, .ref z]) (wl := []) (wr := wO cyJ z o) (c2 := 1) (s2 := 6) rfl rfl rfl rfl rfl rfl (Nat.le_of_ble_eq_true rfl) rfl rfl ⟨Nat.le_of_ble_eq_true rfl, Nat.le_of_ble_eq_true rfl⟩ dL_stateOf_4 7 rfl (ws2 := wC g h1 h2 ++ (wB cyI h1 b1 ++ (wB cyI h2 b2 ++ wO cyJ z o))) rfl (st2 := [.int x1, .int 0, .ref z]) rfl ?_
    refine g_i2l C dL_stateOf_7 8 rfl ?_
    obtain ⟨o_5, e4, hf⟩ := bd1_s hf
    refine g_last C 23 2 rfl rfl (stL_in e4) (st_44 (cyI := cyI) (cyZ := cyZ) (cyJ := cyJ) e4) dL_stateOf_8 9 rfl ?_
    refine g_goto C dL_stateOf_9 15 (by decide) ?_
    refine g_iconst C dL_stateOf_15 16 rfl ic_0 ?_
    refine g_Q hQ ?_
    exact g_iret C hr (by cases hf; rfl) (Nat.le_of_ble_eq_true rfl) (Nat.le_of_ble_eq_true rfl) dL_stateOf_16
abbrev rm_L_hiddenOf : Room := { frames := 8, cells := 1, slots := 6, locals := 124 }
theorem cf_L_hiddenOf : CFH yL_hiddenOf wsL_hiddenOf rm_L_hiddenOf cL_hiddenOf 4 (some .int) [(0, 9, 12, 25)] 3 1 6 := ⟨⟨_, rfl⟩, rfl, rfl, by decide, by decide, by decide +kernel⟩
set_option maxHeartbeats 4000000 in
set_option maxRecDepth 100000 in
theorem m_L_hiddenOf {l : Launch} (hfl : l.stackTraces = false) {D : va_G} {cyI cyZ cyJ : ClassId} {g : Nat} {h1 : Nat → Nat} {b1 : S2} {h2 : Nat → Nat} {b2 : S2} {z : Nat} {o : Nat → Int64} {a0 : Int32} {rx : Int32} {ro : Nat → Int64} (hf : L_hiddenOf b1 b2 o a0 = some (rx, ro)) : Ct ev_s l yL_hiddenOf wsL_hiddenOf rm_L_hiddenOf D (ty3 cyI cyZ cyJ) [.ref g, .int a0, .ref z] (wC g h1 h2 ++ (wB cyI h1 b1 ++ (wB cyI h2 b2 ++ wO cyJ z o))) (fun o => o = .inr (some (.int rx), wC g h1 h2 ++ (wB cyI h1 b1 ++ (wB cyI h2 b2 ++ wO cyJ z ro)))) 1 6 := by
  refine ct_ofH (cc := cL_hiddenOf) (nL := 4) (own := RL) (ret := (some .int)) (hh := [(0, 9, 12, 25)]) hfl (by decide) rfl rfl (Nat.le_of_ble_eq_true rfl) (fun p e s m args below meth c A C hr hnm => ?_)
  refine g_setQ (fun Q hQ => ?_)
  have kw0 := Cx.w C (.classLink RL 25 (xn 3)) (by decide +kernel)
  unfold L_hiddenOf at hf
  refine g_lve (lv' := [(0, .ref g), (1, .int a0), (2, .ref z)]) rfl ?_
  refine g_aload_n C dL_hiddenOf_0 1 rfl 2 rfl ?_
  refine g_iconst C dL_hiddenOf_1 2 rfl ic_0 ?_
  refine g_aload_n C dL_hiddenOf_2 3 rfl 0 rfl ?_
  refine g_iload_n C dL_hiddenOf_3 4 rfl 1 rfl ?_
  rcases bc1_s hf with ⟨ne3, e2, hf⟩ | ⟨x1, e2, hf⟩
  · refine g_callVx C (m_X1_hiddenOf_x hfl (g := g) (h1 := h1) (h2 := h2) e2) cf_X1_hiddenOf gL_hiddenOf_X1_hiddenOf ⟨Nat.le_of_ble_eq_true rfl, Nat.le_of_ble_eq_true rfl⟩ (q0 := 0) (As := [.int a0]) (rest := [.int 0, .ref z]) (wl := []) (wr := wO cyJ z o) (c2 := 1) (s2 := 6) rfl rfl rfl rfl rfl rfl (Nat.le_of_ble_eq_true rfl) rfl rfl ⟨Nat.le_of_ble_eq_true rfl, Nat.le_of_ble_eq_true rfl⟩ dL_hiddenOf_4 7 rfl ?_
    by_cases c7 : ne3 = 3
    · have hf := ifp c7 hf
      subst c7
      refine g_xcatch C [] ⟨0, 9, 12, 25⟩ [] rfl (fun z h => by cases h) (by decide) (by decide) kw0 (by decide) 12 rfl (fun z6 => ?_)
      refine g_astore_n C dL_hiddenOf_12 13 rfl (by decide) (lv' := [(3, .ref z6), (0, .ref g), (1, .int a0), (2, .ref z)]) rfl ?_
      refine g_iconst C dL_hiddenOf_13 14 rfl ic_1 ?_
      refine g_Q hQ ?_
      exact g_iret C hr (by cases hf; rfl) (Nat.le_of_ble_eq_true rfl) (Nat.le_of_ble_eq_true rfl) dL_hiddenOf_14
    · have hf := ifn c7 hf
      cases hf
  · refine g_callV1 C (m_X1_hiddenOf_r hfl (g := g) (h1 := h1) (h2 := h2) e2) cf_X1_hiddenOf gL_hiddenOf_X1_hiddenOf ⟨Nat.le_of_ble_eq_true rfl, Nat.le_of_ble_eq_true rfl⟩ (q0 := 0) (As := [.int a0]) (rest := [.int 0, .ref z]) (wl := []) (wr := wO cyJ z o) (c2 := 1) (s2 := 6) rfl rfl rfl rfl rfl rfl (Nat.le_of_ble_eq_true rfl) rfl rfl ⟨Nat.le_of_ble_eq_true rfl, Nat.le_of_ble_eq_true rfl⟩ dL_hiddenOf_4 7 rfl (ws2 := wC g h1 h2 ++ (wB cyI h1 b1 ++ (wB cyI h2 b2 ++ wO cyJ z o))) rfl (st2 := [.int x1, .int 0, .ref z]) rfl ?_
    refine g_i2l C dL_hiddenOf_7 8 rfl ?_
    obtain ⟨o_5, e4, hf⟩ := bd1_s hf
    refine g_last C 23 2 rfl rfl (stL_in e4) (st_44 (cyI := cyI) (cyZ := cyZ) (cyJ := cyJ) e4) dL_hiddenOf_8 9 rfl ?_
    refine g_goto C dL_hiddenOf_9 15 (by decide) ?_
    refine g_iconst C dL_hiddenOf_15 16 rfl ic_0 ?_
    refine g_Q hQ ?_
    exact g_iret C hr (by cases hf; rfl) (Nat.le_of_ble_eq_true rfl) (Nat.le_of_ble_eq_true rfl) dL_hiddenOf_16
abbrev rm_L_lullabyOf : Room := { frames := 8, cells := 1, slots := 6, locals := 124 }
theorem cf_L_lullabyOf : CFH yL_lullabyOf wsL_lullabyOf rm_L_lullabyOf cL_lullabyOf 4 (some .int) [(0, 9, 12, 25)] 3 1 6 := ⟨⟨_, rfl⟩, rfl, rfl, by decide, by decide, by decide +kernel⟩
set_option maxHeartbeats 4000000 in
set_option maxRecDepth 100000 in
theorem m_L_lullabyOf {l : Launch} (hfl : l.stackTraces = false) {D : va_G} {cyI cyZ cyJ : ClassId} {g : Nat} {h1 : Nat → Nat} {b1 : S2} {h2 : Nat → Nat} {b2 : S2} {z : Nat} {o : Nat → Int64} {a0 : Int32} {rx : Int32} {ro : Nat → Int64} (hf : L_lullabyOf b1 b2 o a0 = some (rx, ro)) : Ct ev_s l yL_lullabyOf wsL_lullabyOf rm_L_lullabyOf D (ty3 cyI cyZ cyJ) [.ref g, .int a0, .ref z] (wC g h1 h2 ++ (wB cyI h1 b1 ++ (wB cyI h2 b2 ++ wO cyJ z o))) (fun o => o = .inr (some (.int rx), wC g h1 h2 ++ (wB cyI h1 b1 ++ (wB cyI h2 b2 ++ wO cyJ z ro)))) 1 6 := by
  refine ct_ofH (cc := cL_lullabyOf) (nL := 4) (own := RL) (ret := (some .int)) (hh := [(0, 9, 12, 25)]) hfl (by decide) rfl rfl (Nat.le_of_ble_eq_true rfl) (fun p e s m args below meth c A C hr hnm => ?_)
  refine g_setQ (fun Q hQ => ?_)
  have kw0 := Cx.w C (.classLink RL 25 (xn 3)) (by decide +kernel)
  unfold L_lullabyOf at hf
  refine g_lve (lv' := [(0, .ref g), (1, .int a0), (2, .ref z)]) rfl ?_
  refine g_aload_n C dL_lullabyOf_0 1 rfl 2 rfl ?_
  refine g_iconst C dL_lullabyOf_1 2 rfl ic_0 ?_
  refine g_aload_n C dL_lullabyOf_2 3 rfl 0 rfl ?_
  refine g_iload_n C dL_lullabyOf_3 4 rfl 1 rfl ?_
  rcases bc1_s hf with ⟨ne3, e2, hf⟩ | ⟨x1, e2, hf⟩
  · refine g_callVx C (m_X1_lullabyOf_x hfl (g := g) (h1 := h1) (h2 := h2) e2) cf_X1_lullabyOf gL_lullabyOf_X1_lullabyOf ⟨Nat.le_of_ble_eq_true rfl, Nat.le_of_ble_eq_true rfl⟩ (q0 := 0) (As := [.int a0]) (rest := [.int 0, .ref z]) (wl := []) (wr := wO cyJ z o) (c2 := 1) (s2 := 6) rfl rfl rfl rfl rfl rfl (Nat.le_of_ble_eq_true rfl) rfl rfl ⟨Nat.le_of_ble_eq_true rfl, Nat.le_of_ble_eq_true rfl⟩ dL_lullabyOf_4 7 rfl ?_
    by_cases c7 : ne3 = 3
    · have hf := ifp c7 hf
      subst c7
      refine g_xcatch C [] ⟨0, 9, 12, 25⟩ [] rfl (fun z h => by cases h) (by decide) (by decide) kw0 (by decide) 12 rfl (fun z6 => ?_)
      refine g_astore_n C dL_lullabyOf_12 13 rfl (by decide) (lv' := [(3, .ref z6), (0, .ref g), (1, .int a0), (2, .ref z)]) rfl ?_
      refine g_iconst C dL_lullabyOf_13 14 rfl ic_1 ?_
      refine g_Q hQ ?_
      exact g_iret C hr (by cases hf; rfl) (Nat.le_of_ble_eq_true rfl) (Nat.le_of_ble_eq_true rfl) dL_lullabyOf_14
    · have hf := ifn c7 hf
      cases hf
  · refine g_callV1 C (m_X1_lullabyOf_r hfl (g := g) (h1 := h1) (h2 := h2) e2) cf_X1_lullabyOf gL_lullabyOf_X1_lullabyOf ⟨Nat.le_of_ble_eq_true rfl, Nat.le_of_ble_eq_true rfl⟩ (q0 := 0) (As := [.int a0]) (rest := [.int 0, .ref z]) (wl := []) (wr := wO cyJ z o) (c2 := 1) (s2 := 6) rfl rfl rfl rfl rfl rfl (Nat.le_of_ble_eq_true rfl) rfl rfl ⟨Nat.le_of_ble_eq_true rfl, Nat.le_of_ble_eq_true rfl⟩ dL_lullabyOf_4 7 rfl (ws2 := wC g h1 h2 ++ (wB cyI h1 b1 ++ (wB cyI h2 b2 ++ wO cyJ z o))) rfl (st2 := [.int x1, .int 0, .ref z]) rfl ?_
    refine g_i2l C dL_lullabyOf_7 8 rfl ?_
    obtain ⟨o_5, e4, hf⟩ := bd1_s hf
    refine g_last C 23 2 rfl rfl (stL_in e4) (st_44 (cyI := cyI) (cyZ := cyZ) (cyJ := cyJ) e4) dL_lullabyOf_8 9 rfl ?_
    refine g_goto C dL_lullabyOf_9 15 (by decide) ?_
    refine g_iconst C dL_lullabyOf_15 16 rfl ic_0 ?_
    refine g_Q hQ ?_
    exact g_iret C hr (by cases hf; rfl) (Nat.le_of_ble_eq_true rfl) (Nat.le_of_ble_eq_true rfl) dL_lullabyOf_16
abbrev rm_L_placeInLine : Room := { frames := 8, cells := 1, slots := 6, locals := 124 }
theorem cf_L_placeInLine : CFH yL_placeInLine wsL_placeInLine rm_L_placeInLine cL_placeInLine 4 (some .int) [(0, 9, 12, 25)] 3 1 6 := ⟨⟨_, rfl⟩, rfl, rfl, by decide, by decide, by decide +kernel⟩
set_option maxHeartbeats 4000000 in
set_option maxRecDepth 100000 in
theorem m_L_placeInLine {l : Launch} (hfl : l.stackTraces = false) {D : va_G} {cyI cyZ cyJ : ClassId} {g : Nat} {h1 : Nat → Nat} {b1 : S2} {h2 : Nat → Nat} {b2 : S2} {z : Nat} {o : Nat → Int64} {a0 : Int32} {rx : Int32} {ro : Nat → Int64} (hf : L_placeInLine b1 b2 o a0 = some (rx, ro)) : Ct ev_s l yL_placeInLine wsL_placeInLine rm_L_placeInLine D (ty3 cyI cyZ cyJ) [.ref g, .int a0, .ref z] (wC g h1 h2 ++ (wB cyI h1 b1 ++ (wB cyI h2 b2 ++ wO cyJ z o))) (fun o => o = .inr (some (.int rx), wC g h1 h2 ++ (wB cyI h1 b1 ++ (wB cyI h2 b2 ++ wO cyJ z ro)))) 1 6 := by
  refine ct_ofH (cc := cL_placeInLine) (nL := 4) (own := RL) (ret := (some .int)) (hh := [(0, 9, 12, 25)]) hfl (by decide) rfl rfl (Nat.le_of_ble_eq_true rfl) (fun p e s m args below meth c A C hr hnm => ?_)
  refine g_setQ (fun Q hQ => ?_)
  have kw0 := Cx.w C (.classLink RL 25 (xn 3)) (by decide +kernel)
  unfold L_placeInLine at hf
  refine g_lve (lv' := [(0, .ref g), (1, .int a0), (2, .ref z)]) rfl ?_
  refine g_aload_n C dL_placeInLine_0 1 rfl 2 rfl ?_
  refine g_iconst C dL_placeInLine_1 2 rfl ic_0 ?_
  refine g_aload_n C dL_placeInLine_2 3 rfl 0 rfl ?_
  refine g_iload_n C dL_placeInLine_3 4 rfl 1 rfl ?_
  rcases bc1_s hf with ⟨ne3, e2, hf⟩ | ⟨x1, e2, hf⟩
  · refine g_callVx C (m_X1_placeInLine_x hfl (g := g) (h1 := h1) (h2 := h2) e2) cf_X1_placeInLine gL_placeInLine_X1_placeInLine ⟨Nat.le_of_ble_eq_true rfl, Nat.le_of_ble_eq_true rfl⟩ (q0 := 0) (As := [.int a0]) (rest := [.int 0, .ref z]) (wl := []) (wr := wO cyJ z o) (c2 := 1) (s2 := 6) rfl rfl rfl rfl rfl rfl (Nat.le_of_ble_eq_true rfl) rfl rfl ⟨Nat.le_of_ble_eq_true rfl, Nat.le_of_ble_eq_true rfl⟩ dL_placeInLine_4 7 rfl ?_
    by_cases c7 : ne3 = 3
    · have hf := ifp c7 hf
      subst c7
      refine g_xcatch C [] ⟨0, 9, 12, 25⟩ [] rfl (fun z h => by cases h) (by decide) (by decide) kw0 (by decide) 12 rfl (fun z6 => ?_)
      refine g_astore_n C dL_placeInLine_12 13 rfl (by decide) (lv' := [(3, .ref z6), (0, .ref g), (1, .int a0), (2, .ref z)]) rfl ?_
      refine g_iconst C dL_placeInLine_13 14 rfl ic_1 ?_
      refine g_Q hQ ?_
      exact g_iret C hr (by cases hf; rfl) (Nat.le_of_ble_eq_true rfl) (Nat.le_of_ble_eq_true rfl) dL_placeInLine_14
    · have hf := ifn c7 hf
      cases hf
  · refine g_callV1 C (m_X1_placeInLine_r hfl (g := g) (h1 := h1) (h2 := h2) e2) cf_X1_placeInLine gL_placeInLine_X1_placeInLine ⟨Nat.le_of_ble_eq_true rfl, Nat.le_of_ble_eq_true rfl⟩ (q0 := 0) (As := [.int a0]) (rest := [.int 0, .ref z]) (wl := []) (wr := wO cyJ z o) (c2 := 1) (s2 := 6) rfl rfl rfl rfl rfl rfl (Nat.le_of_ble_eq_true rfl) rfl rfl ⟨Nat.le_of_ble_eq_true rfl, Nat.le_of_ble_eq_true rfl⟩ dL_placeInLine_4 7 rfl (ws2 := wC g h1 h2 ++ (wB cyI h1 b1 ++ (wB cyI h2 b2 ++ wO cyJ z o))) rfl (st2 := [.int x1, .int 0, .ref z]) rfl ?_
    refine g_i2l C dL_placeInLine_7 8 rfl ?_
    obtain ⟨o_5, e4, hf⟩ := bd1_s hf
    refine g_last C 23 2 rfl rfl (stL_in e4) (st_44 (cyI := cyI) (cyZ := cyZ) (cyJ := cyJ) e4) dL_placeInLine_8 9 rfl ?_
    refine g_goto C dL_placeInLine_9 15 (by decide) ?_
    refine g_iconst C dL_placeInLine_15 16 rfl ic_0 ?_
    refine g_Q hQ ?_
    exact g_iret C hr (by cases hf; rfl) (Nat.le_of_ble_eq_true rfl) (Nat.le_of_ble_eq_true rfl) dL_placeInLine_16
abbrev rm_L_searchTime : Room := { frames := 8, cells := 1, slots := 6, locals := 124 }
theorem cf_L_searchTime : CFH yL_searchTime wsL_searchTime rm_L_searchTime cL_searchTime 4 (some .int) [(0, 9, 12, 25)] 3 1 6 := ⟨⟨_, rfl⟩, rfl, rfl, by decide, by decide, by decide +kernel⟩
set_option maxHeartbeats 4000000 in
set_option maxRecDepth 100000 in
theorem m_L_searchTime {l : Launch} (hfl : l.stackTraces = false) {D : va_G} {cyI cyZ cyJ : ClassId} {g : Nat} {h1 : Nat → Nat} {b1 : S2} {h2 : Nat → Nat} {b2 : S2} {z : Nat} {o : Nat → Int64} {a0 : Int32} {rx : Int32} {ro : Nat → Int64} (hf : L_searchTime b1 b2 o a0 = some (rx, ro)) : Ct ev_s l yL_searchTime wsL_searchTime rm_L_searchTime D (ty3 cyI cyZ cyJ) [.ref g, .int a0, .ref z] (wC g h1 h2 ++ (wB cyI h1 b1 ++ (wB cyI h2 b2 ++ wO cyJ z o))) (fun o => o = .inr (some (.int rx), wC g h1 h2 ++ (wB cyI h1 b1 ++ (wB cyI h2 b2 ++ wO cyJ z ro)))) 1 6 := by
  refine ct_ofH (cc := cL_searchTime) (nL := 4) (own := RL) (ret := (some .int)) (hh := [(0, 9, 12, 25)]) hfl (by decide) rfl rfl (Nat.le_of_ble_eq_true rfl) (fun p e s m args below meth c A C hr hnm => ?_)
  refine g_setQ (fun Q hQ => ?_)
  have kw0 := Cx.w C (.classLink RL 25 (xn 3)) (by decide +kernel)
  unfold L_searchTime at hf
  refine g_lve (lv' := [(0, .ref g), (1, .int a0), (2, .ref z)]) rfl ?_
  refine g_aload_n C dL_searchTime_0 1 rfl 2 rfl ?_
  refine g_iconst C dL_searchTime_1 2 rfl ic_0 ?_
  refine g_aload_n C dL_searchTime_2 3 rfl 0 rfl ?_
  refine g_iload_n C dL_searchTime_3 4 rfl 1 rfl ?_
  rcases bc1_s hf with ⟨ne3, e2, hf⟩ | ⟨x1, e2, hf⟩
  · refine g_callVx C (m_X1_searchTime_x hfl (g := g) (h1 := h1) (h2 := h2) e2) cf_X1_searchTime gL_searchTime_X1_searchTime ⟨Nat.le_of_ble_eq_true rfl, Nat.le_of_ble_eq_true rfl⟩ (q0 := 0) (As := [.int a0]) (rest := [.int 0, .ref z]) (wl := []) (wr := wO cyJ z o) (c2 := 1) (s2 := 6) rfl rfl rfl rfl rfl rfl (Nat.le_of_ble_eq_true rfl) rfl rfl ⟨Nat.le_of_ble_eq_true rfl, Nat.le_of_ble_eq_true rfl⟩ dL_searchTime_4 7 rfl ?_
    by_cases c7 : ne3 = 3
    · have hf := ifp c7 hf
      subst c7
      refine g_xcatch C [] ⟨0, 9, 12, 25⟩ [] rfl (fun z h => by cases h) (by decide) (by decide) kw0 (by decide) 12 rfl (fun z6 => ?_)
      refine g_astore_n C dL_searchTime_12 13 rfl (by decide) (lv' := [(3, .ref z6), (0, .ref g), (1, .int a0), (2, .ref z)]) rfl ?_
      refine g_iconst C dL_searchTime_13 14 rfl ic_1 ?_
      refine g_Q hQ ?_
      exact g_iret C hr (by cases hf; rfl) (Nat.le_of_ble_eq_true rfl) (Nat.le_of_ble_eq_true rfl) dL_searchTime_14
    · have hf := ifn c7 hf
      cases hf
  · refine g_callV1 C (m_X1_searchTime_r hfl (g := g) (h1 := h1) (h2 := h2) e2) cf_X1_searchTime gL_searchTime_X1_searchTime ⟨Nat.le_of_ble_eq_true rfl, Nat.le_of_ble_eq_true rfl⟩ (q0 := 0) (As := [.int a0]) (rest := [.int 0, .ref z]) (wl := []) (wr := wO cyJ z o) (c2 := 1) (s2 := 6) rfl rfl rfl rfl rfl rfl (Nat.le_of_ble_eq_true rfl) rfl rfl ⟨Nat.le_of_ble_eq_true rfl, Nat.le_of_ble_eq_true rfl⟩ dL_searchTime_4 7 rfl (ws2 := wC g h1 h2 ++ (wB cyI h1 b1 ++ (wB cyI h2 b2 ++ wO cyJ z o))) rfl (st2 := [.int x1, .int 0, .ref z]) rfl ?_
    refine g_i2l C dL_searchTime_7 8 rfl ?_
    obtain ⟨o_5, e4, hf⟩ := bd1_s hf
    refine g_last C 23 2 rfl rfl (stL_in e4) (st_44 (cyI := cyI) (cyZ := cyZ) (cyJ := cyJ) e4) dL_searchTime_8 9 rfl ?_
    refine g_goto C dL_searchTime_9 15 (by decide) ?_
    refine g_iconst C dL_searchTime_15 16 rfl ic_0 ?_
    refine g_Q hQ ?_
    exact g_iret C hr (by cases hf; rfl) (Nat.le_of_ble_eq_true rfl) (Nat.le_of_ble_eq_true rfl) dL_searchTime_16
abbrev rm_L_alertnessOf : Room := { frames := 8, cells := 1, slots := 6, locals := 124 }
theorem cf_L_alertnessOf : CFH yL_alertnessOf wsL_alertnessOf rm_L_alertnessOf cL_alertnessOf 4 (some .int) [(0, 9, 12, 25)] 3 1 6 := ⟨⟨_, rfl⟩, rfl, rfl, by decide, by decide, by decide +kernel⟩
set_option maxHeartbeats 4000000 in
set_option maxRecDepth 100000 in
theorem m_L_alertnessOf {l : Launch} (hfl : l.stackTraces = false) {D : va_G} {cyI cyZ cyJ : ClassId} {g : Nat} {h1 : Nat → Nat} {b1 : S2} {h2 : Nat → Nat} {b2 : S2} {z : Nat} {o : Nat → Int64} {a0 : Int32} {rx : Int32} {ro : Nat → Int64} (hf : L_alertnessOf b1 b2 o a0 = some (rx, ro)) : Ct ev_s l yL_alertnessOf wsL_alertnessOf rm_L_alertnessOf D (ty3 cyI cyZ cyJ) [.ref g, .int a0, .ref z] (wC g h1 h2 ++ (wB cyI h1 b1 ++ (wB cyI h2 b2 ++ wO cyJ z o))) (fun o => o = .inr (some (.int rx), wC g h1 h2 ++ (wB cyI h1 b1 ++ (wB cyI h2 b2 ++ wO cyJ z ro)))) 1 6 := by
  refine ct_ofH (cc := cL_alertnessOf) (nL := 4) (own := RL) (ret := (some .int)) (hh := [(0, 9, 12, 25)]) hfl (by decide) rfl rfl (Nat.le_of_ble_eq_true rfl) (fun p e s m args below meth c A C hr hnm => ?_)
  refine g_setQ (fun Q hQ => ?_)
  have kw0 := Cx.w C (.classLink RL 25 (xn 3)) (by decide +kernel)
  unfold L_alertnessOf at hf
  refine g_lve (lv' := [(0, .ref g), (1, .int a0), (2, .ref z)]) rfl ?_
  refine g_aload_n C dL_alertnessOf_0 1 rfl 2 rfl ?_
  refine g_iconst C dL_alertnessOf_1 2 rfl ic_0 ?_
  refine g_aload_n C dL_alertnessOf_2 3 rfl 0 rfl ?_
  refine g_iload_n C dL_alertnessOf_3 4 rfl 1 rfl ?_
  rcases bc1_s hf with ⟨ne3, e2, hf⟩ | ⟨x1, e2, hf⟩
  · refine g_callVx C (m_X1_alertnessOf_x hfl (g := g) (h1 := h1) (h2 := h2) e2) cf_X1_alertnessOf gL_alertnessOf_X1_alertnessOf ⟨Nat.le_of_ble_eq_true rfl, Nat.le_of_ble_eq_true rfl⟩ (q0 := 0) (As := [.int a0]) (rest := [.int 0, .ref z]) (wl := []) (wr := wO cyJ z o) (c2 := 1) (s2 := 6) rfl rfl rfl rfl rfl rfl (Nat.le_of_ble_eq_true rfl) rfl rfl ⟨Nat.le_of_ble_eq_true rfl, Nat.le_of_ble_eq_true rfl⟩ dL_alertnessOf_4 7 rfl ?_
    by_cases c7 : ne3 = 3
    · have hf := ifp c7 hf
      subst c7
      refine g_xcatch C [] ⟨0, 9, 12, 25⟩ [] rfl (fun z h => by cases h) (by decide) (by decide) kw0 (by decide) 12 rfl (fun z6 => ?_)
      refine g_astore_n C dL_alertnessOf_12 13 rfl (by decide) (lv' := [(3, .ref z6), (0, .ref g), (1, .int a0), (2, .ref z)]) rfl ?_
      refine g_iconst C dL_alertnessOf_13 14 rfl ic_1 ?_
      refine g_Q hQ ?_
      exact g_iret C hr (by cases hf; rfl) (Nat.le_of_ble_eq_true rfl) (Nat.le_of_ble_eq_true rfl) dL_alertnessOf_14
    · have hf := ifn c7 hf
      cases hf
  · refine g_callV1 C (m_X1_alertnessOf_r hfl (g := g) (h1 := h1) (h2 := h2) e2) cf_X1_alertnessOf gL_alertnessOf_X1_alertnessOf ⟨Nat.le_of_ble_eq_true rfl, Nat.le_of_ble_eq_true rfl⟩ (q0 := 0) (As := [.int a0]) (rest := [.int 0, .ref z]) (wl := []) (wr := wO cyJ z o) (c2 := 1) (s2 := 6) rfl rfl rfl rfl rfl rfl (Nat.le_of_ble_eq_true rfl) rfl rfl ⟨Nat.le_of_ble_eq_true rfl, Nat.le_of_ble_eq_true rfl⟩ dL_alertnessOf_4 7 rfl (ws2 := wC g h1 h2 ++ (wB cyI h1 b1 ++ (wB cyI h2 b2 ++ wO cyJ z o))) rfl (st2 := [.int x1, .int 0, .ref z]) rfl ?_
    refine g_i2l C dL_alertnessOf_7 8 rfl ?_
    obtain ⟨o_5, e4, hf⟩ := bd1_s hf
    refine g_last C 23 2 rfl rfl (stL_in e4) (st_44 (cyI := cyI) (cyZ := cyZ) (cyJ := cyJ) e4) dL_alertnessOf_8 9 rfl ?_
    refine g_goto C dL_alertnessOf_9 15 (by decide) ?_
    refine g_iconst C dL_alertnessOf_15 16 rfl ic_0 ?_
    refine g_Q hQ ?_
    exact g_iret C hr (by cases hf; rfl) (Nat.le_of_ble_eq_true rfl) (Nat.le_of_ble_eq_true rfl) dL_alertnessOf_16
abbrev rm_L_searches : Room := { frames := 8, cells := 1, slots := 6, locals := 124 }
theorem cf_L_searches : CFH yL_searches wsL_searches rm_L_searches cL_searches 4 (some .int) [(0, 9, 12, 25)] 3 1 6 := ⟨⟨_, rfl⟩, rfl, rfl, by decide, by decide, by decide +kernel⟩
set_option maxHeartbeats 4000000 in
set_option maxRecDepth 100000 in
theorem m_L_searches {l : Launch} (hfl : l.stackTraces = false) {D : va_G} {cyI cyZ cyJ : ClassId} {g : Nat} {h1 : Nat → Nat} {b1 : S2} {h2 : Nat → Nat} {b2 : S2} {z : Nat} {o : Nat → Int64} {a0 : Int32} {rx : Int32} {ro : Nat → Int64} (hf : L_searches b1 b2 o a0 = some (rx, ro)) : Ct ev_s l yL_searches wsL_searches rm_L_searches D (ty3 cyI cyZ cyJ) [.ref g, .int a0, .ref z] (wC g h1 h2 ++ (wB cyI h1 b1 ++ (wB cyI h2 b2 ++ wO cyJ z o))) (fun o => o = .inr (some (.int rx), wC g h1 h2 ++ (wB cyI h1 b1 ++ (wB cyI h2 b2 ++ wO cyJ z ro)))) 1 6 := by
  refine ct_ofH (cc := cL_searches) (nL := 4) (own := RL) (ret := (some .int)) (hh := [(0, 9, 12, 25)]) hfl (by decide) rfl rfl (Nat.le_of_ble_eq_true rfl) (fun p e s m args below meth c A C hr hnm => ?_)
  refine g_setQ (fun Q hQ => ?_)
  have kw0 := Cx.w C (.classLink RL 25 (xn 3)) (by decide +kernel)
  unfold L_searches at hf
  refine g_lve (lv' := [(0, .ref g), (1, .int a0), (2, .ref z)]) rfl ?_
  refine g_aload_n C dL_searches_0 1 rfl 2 rfl ?_
  refine g_iconst C dL_searches_1 2 rfl ic_0 ?_
  refine g_aload_n C dL_searches_2 3 rfl 0 rfl ?_
  refine g_iload_n C dL_searches_3 4 rfl 1 rfl ?_
  rcases bc1_s hf with ⟨ne3, e2, hf⟩ | ⟨x1, e2, hf⟩
  · refine g_callVx C (m_X1_searches_x hfl (g := g) (h1 := h1) (h2 := h2) e2) cf_X1_searches gL_searches_X1_searches ⟨Nat.le_of_ble_eq_true rfl, Nat.le_of_ble_eq_true rfl⟩ (q0 := 0) (As := [.int a0]) (rest := [.int 0, .ref z]) (wl := []) (wr := wO cyJ z o) (c2 := 1) (s2 := 6) rfl rfl rfl rfl rfl rfl (Nat.le_of_ble_eq_true rfl) rfl rfl ⟨Nat.le_of_ble_eq_true rfl, Nat.le_of_ble_eq_true rfl⟩ dL_searches_4 7 rfl ?_
    by_cases c7 : ne3 = 3
    · have hf := ifp c7 hf
      subst c7
      refine g_xcatch C [] ⟨0, 9, 12, 25⟩ [] rfl (fun z h => by cases h) (by decide) (by decide) kw0 (by decide) 12 rfl (fun z6 => ?_)
      refine g_astore_n C dL_searches_12 13 rfl (by decide) (lv' := [(3, .ref z6), (0, .ref g), (1, .int a0), (2, .ref z)]) rfl ?_
      refine g_iconst C dL_searches_13 14 rfl ic_1 ?_
      refine g_Q hQ ?_
      exact g_iret C hr (by cases hf; rfl) (Nat.le_of_ble_eq_true rfl) (Nat.le_of_ble_eq_true rfl) dL_searches_14
    · have hf := ifn c7 hf
      cases hf
  · refine g_callV1 C (m_X1_searches_r hfl (g := g) (h1 := h1) (h2 := h2) e2) cf_X1_searches gL_searches_X1_searches ⟨Nat.le_of_ble_eq_true rfl, Nat.le_of_ble_eq_true rfl⟩ (q0 := 0) (As := [.int a0]) (rest := [.int 0, .ref z]) (wl := []) (wr := wO cyJ z o) (c2 := 1) (s2 := 6) rfl rfl rfl rfl rfl rfl (Nat.le_of_ble_eq_true rfl) rfl rfl ⟨Nat.le_of_ble_eq_true rfl, Nat.le_of_ble_eq_true rfl⟩ dL_searches_4 7 rfl (ws2 := wC g h1 h2 ++ (wB cyI h1 b1 ++ (wB cyI h2 b2 ++ wO cyJ z o))) rfl (st2 := [.int x1, .int 0, .ref z]) rfl ?_
    refine g_i2l C dL_searches_7 8 rfl ?_
    obtain ⟨o_5, e4, hf⟩ := bd1_s hf
    refine g_last C 23 2 rfl rfl (stL_in e4) (st_44 (cyI := cyI) (cyZ := cyZ) (cyJ := cyJ) e4) dL_searches_8 9 rfl ?_
    refine g_goto C dL_searches_9 15 (by decide) ?_
    refine g_iconst C dL_searches_15 16 rfl ic_0 ?_
    refine g_Q hQ ?_
    exact g_iret C hr (by cases hf; rfl) (Nat.le_of_ble_eq_true rfl) (Nat.le_of_ble_eq_true rfl) dL_searches_16
abbrev rm_L_minutesToGo : Room := { frames := 8, cells := 1, slots := 6, locals := 124 }
theorem cf_L_minutesToGo : CFH yL_minutesToGo wsL_minutesToGo rm_L_minutesToGo cL_minutesToGo 4 (some .int) [(0, 9, 12, 25)] 3 1 6 := ⟨⟨_, rfl⟩, rfl, rfl, by decide, by decide, by decide +kernel⟩
set_option maxHeartbeats 4000000 in
set_option maxRecDepth 100000 in
theorem m_L_minutesToGo {l : Launch} (hfl : l.stackTraces = false) {D : va_G} {cyI cyZ cyJ : ClassId} {g : Nat} {h1 : Nat → Nat} {b1 : S2} {h2 : Nat → Nat} {b2 : S2} {z : Nat} {o : Nat → Int64} {a0 : Int32} {rx : Int32} {ro : Nat → Int64} (hf : L_minutesToGo b1 b2 o a0 = some (rx, ro)) : Ct ev_s l yL_minutesToGo wsL_minutesToGo rm_L_minutesToGo D (ty3 cyI cyZ cyJ) [.ref g, .int a0, .ref z] (wC g h1 h2 ++ (wB cyI h1 b1 ++ (wB cyI h2 b2 ++ wO cyJ z o))) (fun o => o = .inr (some (.int rx), wC g h1 h2 ++ (wB cyI h1 b1 ++ (wB cyI h2 b2 ++ wO cyJ z ro)))) 1 6 := by
  refine ct_ofH (cc := cL_minutesToGo) (nL := 4) (own := RL) (ret := (some .int)) (hh := [(0, 9, 12, 25)]) hfl (by decide) rfl rfl (Nat.le_of_ble_eq_true rfl) (fun p e s m args below meth c A C hr hnm => ?_)
  refine g_setQ (fun Q hQ => ?_)
  have kw0 := Cx.w C (.classLink RL 25 (xn 3)) (by decide +kernel)
  unfold L_minutesToGo at hf
  refine g_lve (lv' := [(0, .ref g), (1, .int a0), (2, .ref z)]) rfl ?_
  refine g_aload_n C dL_minutesToGo_0 1 rfl 2 rfl ?_
  refine g_iconst C dL_minutesToGo_1 2 rfl ic_0 ?_
  refine g_aload_n C dL_minutesToGo_2 3 rfl 0 rfl ?_
  refine g_iload_n C dL_minutesToGo_3 4 rfl 1 rfl ?_
  rcases bc1_s hf with ⟨ne3, e2, hf⟩ | ⟨x1, e2, hf⟩
  · refine g_callVx C (m_X1_minutesToGo_x hfl (g := g) (h1 := h1) (h2 := h2) e2) cf_X1_minutesToGo gL_minutesToGo_X1_minutesToGo ⟨Nat.le_of_ble_eq_true rfl, Nat.le_of_ble_eq_true rfl⟩ (q0 := 0) (As := [.int a0]) (rest := [.int 0, .ref z]) (wl := []) (wr := wO cyJ z o) (c2 := 1) (s2 := 6) rfl rfl rfl rfl rfl rfl (Nat.le_of_ble_eq_true rfl) rfl rfl ⟨Nat.le_of_ble_eq_true rfl, Nat.le_of_ble_eq_true rfl⟩ dL_minutesToGo_4 7 rfl ?_
    by_cases c7 : ne3 = 3
    · have hf := ifp c7 hf
      subst c7
      refine g_xcatch C [] ⟨0, 9, 12, 25⟩ [] rfl (fun z h => by cases h) (by decide) (by decide) kw0 (by decide) 12 rfl (fun z6 => ?_)
      refine g_astore_n C dL_minutesToGo_12 13 rfl (by decide) (lv' := [(3, .ref z6), (0, .ref g), (1, .int a0), (2, .ref z)]) rfl ?_
      refine g_iconst C dL_minutesToGo_13 14 rfl ic_1 ?_
      refine g_Q hQ ?_
      exact g_iret C hr (by cases hf; rfl) (Nat.le_of_ble_eq_true rfl) (Nat.le_of_ble_eq_true rfl) dL_minutesToGo_14
    · have hf := ifn c7 hf
      cases hf
  · refine g_callV1 C (m_X1_minutesToGo_r hfl (g := g) (h1 := h1) (h2 := h2) e2) cf_X1_minutesToGo gL_minutesToGo_X1_minutesToGo ⟨Nat.le_of_ble_eq_true rfl, Nat.le_of_ble_eq_true rfl⟩ (q0 := 0) (As := [.int a0]) (rest := [.int 0, .ref z]) (wl := []) (wr := wO cyJ z o) (c2 := 1) (s2 := 6) rfl rfl rfl rfl rfl rfl (Nat.le_of_ble_eq_true rfl) rfl rfl ⟨Nat.le_of_ble_eq_true rfl, Nat.le_of_ble_eq_true rfl⟩ dL_minutesToGo_4 7 rfl (ws2 := wC g h1 h2 ++ (wB cyI h1 b1 ++ (wB cyI h2 b2 ++ wO cyJ z o))) rfl (st2 := [.int x1, .int 0, .ref z]) rfl ?_
    refine g_i2l C dL_minutesToGo_7 8 rfl ?_
    obtain ⟨o_5, e4, hf⟩ := bd1_s hf
    refine g_last C 23 2 rfl rfl (stL_in e4) (st_44 (cyI := cyI) (cyZ := cyZ) (cyJ := cyJ) e4) dL_minutesToGo_8 9 rfl ?_
    refine g_goto C dL_minutesToGo_9 15 (by decide) ?_
    refine g_iconst C dL_minutesToGo_15 16 rfl ic_0 ?_
    refine g_Q hQ ?_
    exact g_iret C hr (by cases hf; rfl) (Nat.le_of_ble_eq_true rfl) (Nat.le_of_ble_eq_true rfl) dL_minutesToGo_16
abbrev rm_L_wouldFind : Room := { frames := 8, cells := 2, slots := 12, locals := 125 }
theorem cf_L_wouldFind : CFH yL_wouldFind wsL_wouldFind rm_L_wouldFind cL_wouldFind 5 (some .int) [(0, 17, 20, 25)] 4 2 12 := ⟨⟨_, rfl⟩, rfl, rfl, by decide, by decide, by decide +kernel⟩
set_option maxHeartbeats 4000000 in
set_option maxRecDepth 100000 in
theorem m_L_wouldFind {l : Launch} (hfl : l.stackTraces = false) {D : va_G} {cyI cyZ cyJ : ClassId} {g : Nat} {h1 : Nat → Nat} {b1 : S2} {h2 : Nat → Nat} {b2 : S2} {z : Nat} {o : Nat → Int64} {a0 : Int32} {a1 : Int32} {rx : Int32} {ro : Nat → Int64} (hf : L_wouldFind b1 b2 o a0 a1 = some (rx, ro)) : Ct ev_s l yL_wouldFind wsL_wouldFind rm_L_wouldFind D (ty3 cyI cyZ cyJ) [.ref g, .int a0, .int a1, .ref z] (wC g h1 h2 ++ (wB cyI h1 b1 ++ (wB cyI h2 b2 ++ wO cyJ z o))) (fun o => o = .inr (some (.int rx), wC g h1 h2 ++ (wB cyI h1 b1 ++ (wB cyI h2 b2 ++ wO cyJ z ro)))) 2 12 := by
  refine ct_ofH (cc := cL_wouldFind) (nL := 5) (own := RL) (ret := (some .int)) (hh := [(0, 17, 20, 25)]) hfl (by decide) rfl rfl (Nat.le_of_ble_eq_true rfl) (fun p e s m args below meth c A C hr hnm => ?_)
  refine g_setQ (fun Q hQ => ?_)
  have kw0 := Cx.w C (.classLink RL 25 (xn 3)) (by decide +kernel)
  unfold L_wouldFind at hf
  refine g_lve (lv' := [(0, .ref g), (1, .int a0), (2, .int a1), (3, .ref z)]) rfl ?_
  refine g_aload_n C dL_wouldFind_0 1 rfl 3 rfl ?_
  refine g_iconst C dL_wouldFind_1 2 rfl ic_0 ?_
  refine g_aload_n C dL_wouldFind_2 3 rfl 0 rfl ?_
  refine g_iload_n C dL_wouldFind_3 4 rfl 1 rfl ?_
  refine g_iload_n C dL_wouldFind_4 5 rfl 2 rfl ?_
  rcases bc1_s hf with ⟨ne3, e2, hf⟩ | ⟨x1, e2, hf⟩
  · refine g_callVx C (m_X1_wouldFind_x hfl (g := g) (h1 := h1) (h2 := h2) e2) cf_X1_wouldFind gL_wouldFind_X1_wouldFind ⟨Nat.le_of_ble_eq_true rfl, Nat.le_of_ble_eq_true rfl⟩ (q0 := 0) (As := [.int a0, .int a1]) (rest := [.int 0, .ref z]) (wl := []) (wr := wO cyJ z o) (c2 := 2) (s2 := 12) rfl rfl rfl rfl rfl rfl (Nat.le_of_ble_eq_true rfl) rfl rfl ⟨Nat.le_of_ble_eq_true rfl, Nat.le_of_ble_eq_true rfl⟩ dL_wouldFind_5 8 rfl ?_
    by_cases c10 : ne3 = 3
    · have hf := ifp c10 hf
      subst c10
      refine g_xcatch C [] ⟨0, 17, 20, 25⟩ [] rfl (fun z h => by cases h) (by decide) (by decide) kw0 (by decide) 20 rfl (fun z9 => ?_)
      refine g_astore C dL_wouldFind_20 22 rfl (by decide) (lv' := [(4, .ref z9), (0, .ref g), (1, .int a0), (2, .int a1), (3, .ref z)]) rfl ?_
      refine g_iconst C dL_wouldFind_22 23 rfl ic_1 ?_
      refine g_Q hQ ?_
      exact g_iret C hr (by cases hf; rfl) (Nat.le_of_ble_eq_true rfl) (Nat.le_of_ble_eq_true rfl) dL_wouldFind_23
    · have hf := ifn c10 hf
      cases hf
  · refine g_callV1 C (m_X1_wouldFind_r hfl (g := g) (h1 := h1) (h2 := h2) e2) cf_X1_wouldFind gL_wouldFind_X1_wouldFind ⟨Nat.le_of_ble_eq_true rfl, Nat.le_of_ble_eq_true rfl⟩ (q0 := 0) (As := [.int a0, .int a1]) (rest := [.int 0, .ref z]) (wl := []) (wr := wO cyJ z o) (c2 := 2) (s2 := 12) rfl rfl rfl rfl rfl rfl (Nat.le_of_ble_eq_true rfl) rfl rfl ⟨Nat.le_of_ble_eq_true rfl, Nat.le_of_ble_eq_true rfl⟩ dL_wouldFind_5 8 rfl (ws2 := wC g h1 h2 ++ (wB cyI h1 b1 ++ (wB cyI h2 b2 ++ wO cyJ z o))) rfl (st2 := [.int x1, .int 0, .ref z]) rfl ?_
    refine g_if_eq C dL_wouldFind_8 15 11 (by decide) rfl (fun c4 => ?_) (fun c4 => ?_)
    · have hf := ifp c4 hf
      refine g_lconst C dL_wouldFind_15 16 rfl (v := 0) rfl ?_
      obtain ⟨o_6, e5, hf⟩ := bd1_s hf
      refine g_last C 23 2 rfl rfl (stL_in e5) (st_44 (cyI := cyI) (cyZ := cyZ) (cyJ := cyJ) e5) dL_wouldFind_16 17 rfl ?_
      refine g_goto C dL_wouldFind_17 24 (by decide) ?_
      refine g_iconst C dL_wouldFind_24 25 rfl ic_0 ?_
      refine g_Q hQ ?_
      exact g_iret C hr (by cases hf; rfl) (Nat.le_of_ble_eq_true rfl) (Nat.le_of_ble_eq_true rfl) dL_wouldFind_25
    · have hf := ifn c4 hf
      refine g_lconst C dL_wouldFind_11 12 rfl (v := 1) rfl ?_
      refine g_goto C dL_wouldFind_12 16 (by decide) ?_
      obtain ⟨o_8, e7, hf⟩ := bd1_s hf
      refine g_last C 23 2 rfl rfl (stL_in e7) (st_44 (cyI := cyI) (cyZ := cyZ) (cyJ := cyJ) e7) dL_wouldFind_16 17 rfl ?_
      refine g_goto C dL_wouldFind_17 24 (by decide) ?_
      refine g_iconst C dL_wouldFind_24 25 rfl ic_0 ?_
      refine g_Q hQ ?_
      exact g_iret C hr (by cases hf; rfl) (Nat.le_of_ble_eq_true rfl) (Nat.le_of_ble_eq_true rfl) dL_wouldFind_25
abbrev rm_L_minutesUntilAsleep : Room := { frames := 8, cells := 1, slots := 6, locals := 132 }
theorem cf_L_minutesUntilAsleep : CFH yL_minutesUntilAsleep wsL_minutesUntilAsleep rm_L_minutesUntilAsleep cL_minutesUntilAsleep 4 (some .int) [(0, 9, 12, 25)] 3 1 6 := ⟨⟨_, rfl⟩, rfl, rfl, by decide, by decide, by decide +kernel⟩
set_option maxHeartbeats 4000000 in
set_option maxRecDepth 100000 in
theorem m_L_minutesUntilAsleep {l : Launch} (hfl : l.stackTraces = false) {D : va_G} {cyI cyZ cyJ : ClassId} {g : Nat} {h1 : Nat → Nat} {b1 : S2} {h2 : Nat → Nat} {b2 : S2} {z : Nat} {o : Nat → Int64} {a0 : Int32} {rx : Int32} {rb2 : S2} {ro : Nat → Int64} (hf : L_minutesUntilAsleep b1 b2 o a0 = some (rx, rb2, ro)) : Ct ev_s l yL_minutesUntilAsleep wsL_minutesUntilAsleep rm_L_minutesUntilAsleep D (ty3 cyI cyZ cyJ) [.ref g, .int a0, .ref z] (wC g h1 h2 ++ (wB cyI h1 b1 ++ (wB cyI h2 b2 ++ wO cyJ z o))) (fun o => o = .inr (some (.int rx), wC g h1 h2 ++ (wB cyI h1 b1 ++ (wB cyI h2 rb2 ++ wO cyJ z ro)))) 1 6 := by
  refine ct_ofH (cc := cL_minutesUntilAsleep) (nL := 4) (own := RL) (ret := (some .int)) (hh := [(0, 9, 12, 25)]) hfl (by decide) rfl rfl (Nat.le_of_ble_eq_true rfl) (fun p e s m args below meth c A C hr hnm => ?_)
  refine g_setQ (fun Q hQ => ?_)
  have kw0 := Cx.w C (.classLink RL 25 (xn 3)) (by decide +kernel)
  unfold L_minutesUntilAsleep at hf
  refine g_lve (lv' := [(0, .ref g), (1, .int a0), (2, .ref z)]) rfl ?_
  refine g_aload_n C dL_minutesUntilAsleep_0 1 rfl 2 rfl ?_
  refine g_iconst C dL_minutesUntilAsleep_1 2 rfl ic_0 ?_
  refine g_aload_n C dL_minutesUntilAsleep_2 3 rfl 0 rfl ?_
  refine g_iload_n C dL_minutesUntilAsleep_3 4 rfl 1 rfl ?_
  rcases bc2_s hf with ⟨ne4, e3, hf⟩ | ⟨x1, b2_2, e3, hf⟩
  · refine g_callVx C (m_X1_minutesUntilAsleep_x hfl (g := g) (h1 := h1) (h2 := h2) e3) cf_X1_minutesUntilAsleep gL_minutesUntilAsleep_X1_minutesUntilAsleep ⟨Nat.le_of_ble_eq_true rfl, Nat.le_of_ble_eq_true rfl⟩ (q0 := 0) (As := [.int a0]) (rest := [.int 0, .ref z]) (wl := []) (wr := wO cyJ z o) (c2 := 1) (s2 := 6) rfl rfl rfl rfl rfl rfl (Nat.le_of_ble_eq_true rfl) rfl rfl ⟨Nat.le_of_ble_eq_true rfl, Nat.le_of_ble_eq_true rfl⟩ dL_minutesUntilAsleep_4 7 rfl ?_
    by_cases c8 : ne4 = 3
    · have hf := ifp c8 hf
      subst c8
      refine g_xcatch C [] ⟨0, 9, 12, 25⟩ [] rfl (fun z h => by cases h) (by decide) (by decide) kw0 (by decide) 12 rfl (fun z7 => ?_)
      refine g_astore_n C dL_minutesUntilAsleep_12 13 rfl (by decide) (lv' := [(3, .ref z7), (0, .ref g), (1, .int a0), (2, .ref z)]) rfl ?_
      refine g_iconst C dL_minutesUntilAsleep_13 14 rfl ic_1 ?_
      refine g_Q hQ ?_
      exact g_iret C hr (by cases hf; rfl) (Nat.le_of_ble_eq_true rfl) (Nat.le_of_ble_eq_true rfl) dL_minutesUntilAsleep_14
    · have hf := ifn c8 hf
      cases hf
  · refine g_callV1 C (m_X1_minutesUntilAsleep_r hfl (g := g) (h1 := h1) (h2 := h2) e3) cf_X1_minutesUntilAsleep gL_minutesUntilAsleep_X1_minutesUntilAsleep ⟨Nat.le_of_ble_eq_true rfl, Nat.le_of_ble_eq_true rfl⟩ (q0 := 0) (As := [.int a0]) (rest := [.int 0, .ref z]) (wl := []) (wr := wO cyJ z o) (c2 := 1) (s2 := 6) rfl rfl rfl rfl rfl rfl (Nat.le_of_ble_eq_true rfl) rfl rfl ⟨Nat.le_of_ble_eq_true rfl, Nat.le_of_ble_eq_true rfl⟩ dL_minutesUntilAsleep_4 7 rfl (ws2 := wC g h1 h2 ++ (wB cyI h1 b1 ++ (wB cyI h2 b2_2 ++ wO cyJ z o))) rfl (st2 := [.int x1, .int 0, .ref z]) rfl ?_
    refine g_i2l C dL_minutesUntilAsleep_7 8 rfl ?_
    obtain ⟨o_6, e5, hf⟩ := bd1_s hf
    refine g_last C 23 2 rfl rfl (stL_in e5) (st_44 (cyI := cyI) (cyZ := cyZ) (cyJ := cyJ) e5) dL_minutesUntilAsleep_8 9 rfl ?_
    refine g_goto C dL_minutesUntilAsleep_9 15 (by decide) ?_
    refine g_iconst C dL_minutesUntilAsleep_15 16 rfl ic_0 ?_
    refine g_Q hQ ?_
    exact g_iret C hr (by cases hf; rfl) (Nat.le_of_ble_eq_true rfl) (Nat.le_of_ble_eq_true rfl) dL_minutesUntilAsleep_16
abbrev rm_L_asleepIn : Room := { frames := 8, cells := 1, slots := 6, locals := 132 }
theorem cf_L_asleepIn : CFH yL_asleepIn wsL_asleepIn rm_L_asleepIn cL_asleepIn 4 (some .int) [(0, 9, 12, 19)] 3 1 6 := ⟨⟨_, rfl⟩, rfl, rfl, by decide, by decide, by decide +kernel⟩
set_option maxHeartbeats 4000000 in
set_option maxRecDepth 100000 in
theorem m_L_asleepIn {l : Launch} (hfl : l.stackTraces = false) {D : va_G} {cyI cyZ cyJ : ClassId} {g : Nat} {h1 : Nat → Nat} {b1 : S2} {h2 : Nat → Nat} {b2 : S2} {z : Nat} {o : Nat → Int64} {a0 : Int32} {rx : Int32} {rb2 : S2} {ro : Nat → Int64} (hf : L_asleepIn b1 b2 o a0 = some (rx, rb2, ro)) : Ct ev_s l yL_asleepIn wsL_asleepIn rm_L_asleepIn D (ty3 cyI cyZ cyJ) [.ref g, .int a0, .ref z] (wC g h1 h2 ++ (wB cyI h1 b1 ++ (wB cyI h2 b2 ++ wO cyJ z o))) (fun o => o = .inr (some (.int rx), wC g h1 h2 ++ (wB cyI h1 b1 ++ (wB cyI h2 rb2 ++ wO cyJ z ro)))) 1 6 := by
  refine ct_ofH (cc := cL_asleepIn) (nL := 4) (own := RL) (ret := (some .int)) (hh := [(0, 9, 12, 19)]) hfl (by decide) rfl rfl (Nat.le_of_ble_eq_true rfl) (fun p e s m args below meth c A C hr hnm => ?_)
  refine g_setQ (fun Q hQ => ?_)
  have kw0 := Cx.w C (.classLink RL 19 (xn 2)) (by decide +kernel)
  unfold L_asleepIn at hf
  refine g_lve (lv' := [(0, .ref g), (1, .int a0), (2, .ref z)]) rfl ?_
  refine g_aload_n C dL_asleepIn_0 1 rfl 2 rfl ?_
  refine g_iconst C dL_asleepIn_1 2 rfl ic_0 ?_
  refine g_aload_n C dL_asleepIn_2 3 rfl 0 rfl ?_
  refine g_iload_n C dL_asleepIn_3 4 rfl 1 rfl ?_
  rcases bc2_s hf with ⟨ne4, e3, hf⟩ | ⟨x1, b2_2, e3, hf⟩
  · refine g_callVx C (m_X1_asleepIn_x hfl (g := g) (h1 := h1) (h2 := h2) e3) cf_X1_asleepIn gL_asleepIn_X1_asleepIn ⟨Nat.le_of_ble_eq_true rfl, Nat.le_of_ble_eq_true rfl⟩ (q0 := 0) (As := [.int a0]) (rest := [.int 0, .ref z]) (wl := []) (wr := wO cyJ z o) (c2 := 1) (s2 := 6) rfl rfl rfl rfl rfl rfl (Nat.le_of_ble_eq_true rfl) rfl rfl ⟨Nat.le_of_ble_eq_true rfl, Nat.le_of_ble_eq_true rfl⟩ dL_asleepIn_4 7 rfl ?_
    by_cases c8 : ne4 = 2
    · have hf := ifp c8 hf
      subst c8
      refine g_xcatch C [] ⟨0, 9, 12, 19⟩ [] rfl (fun z h => by cases h) (by decide) (by decide) kw0 (by decide) 12 rfl (fun z7 => ?_)
      refine g_astore_n C dL_asleepIn_12 13 rfl (by decide) (lv' := [(3, .ref z7), (0, .ref g), (1, .int a0), (2, .ref z)]) rfl ?_
      refine g_iconst C dL_asleepIn_13 14 rfl ic_1 ?_
      refine g_Q hQ ?_
      exact g_iret C hr (by cases hf; rfl) (Nat.le_of_ble_eq_true rfl) (Nat.le_of_ble_eq_true rfl) dL_asleepIn_14
    · have hf := ifn c8 hf
      cases hf
  · refine g_callV1 C (m_X1_asleepIn_r hfl (g := g) (h1 := h1) (h2 := h2) e3) cf_X1_asleepIn gL_asleepIn_X1_asleepIn ⟨Nat.le_of_ble_eq_true rfl, Nat.le_of_ble_eq_true rfl⟩ (q0 := 0) (As := [.int a0]) (rest := [.int 0, .ref z]) (wl := []) (wr := wO cyJ z o) (c2 := 1) (s2 := 6) rfl rfl rfl rfl rfl rfl (Nat.le_of_ble_eq_true rfl) rfl rfl ⟨Nat.le_of_ble_eq_true rfl, Nat.le_of_ble_eq_true rfl⟩ dL_asleepIn_4 7 rfl (ws2 := wC g h1 h2 ++ (wB cyI h1 b1 ++ (wB cyI h2 b2_2 ++ wO cyJ z o))) rfl (st2 := [.int x1, .int 0, .ref z]) rfl ?_
    refine g_i2l C dL_asleepIn_7 8 rfl ?_
    obtain ⟨o_6, e5, hf⟩ := bd1_s hf
    refine g_last C 23 2 rfl rfl (stL_in e5) (st_44 (cyI := cyI) (cyZ := cyZ) (cyJ := cyJ) e5) dL_asleepIn_8 9 rfl ?_
    refine g_goto C dL_asleepIn_9 15 (by decide) ?_
    refine g_iconst C dL_asleepIn_15 16 rfl ic_0 ?_
    refine g_Q hQ ?_
    exact g_iret C hr (by cases hf; rfl) (Nat.le_of_ble_eq_true rfl) (Nat.le_of_ble_eq_true rfl) dL_asleepIn_16
abbrev rm_L_bestToDeclare : Room := { frames := 8, cells := 1, slots := 6, locals := 136 }
theorem cf_L_bestToDeclare : CFH yL_bestToDeclare wsL_bestToDeclare rm_L_bestToDeclare cL_bestToDeclare 4 (some .int) [(0, 9, 12, 25)] 3 1 6 := ⟨⟨_, rfl⟩, rfl, rfl, by decide, by decide, by decide +kernel⟩
set_option maxHeartbeats 4000000 in
set_option maxRecDepth 100000 in
theorem m_L_bestToDeclare {l : Launch} (hfl : l.stackTraces = false) {D : va_G} {cyI cyZ cyJ : ClassId} {g : Nat} {h1 : Nat → Nat} {b1 : S2} {h2 : Nat → Nat} {b2 : S2} {z : Nat} {o : Nat → Int64} {a0 : Int32} {rx : Int32} {rb2 : S2} {ro : Nat → Int64} (hf : L_bestToDeclare b1 b2 o a0 = some (rx, rb2, ro)) : Ct ev_s l yL_bestToDeclare wsL_bestToDeclare rm_L_bestToDeclare D (ty3 cyI cyZ cyJ) [.ref g, .int a0, .ref z] (wC g h1 h2 ++ (wB cyI h1 b1 ++ (wB cyI h2 b2 ++ wO cyJ z o))) (fun o => o = .inr (some (.int rx), wC g h1 h2 ++ (wB cyI h1 b1 ++ (wB cyI h2 rb2 ++ wO cyJ z ro)))) 1 6 := by
  refine ct_ofH (cc := cL_bestToDeclare) (nL := 4) (own := RL) (ret := (some .int)) (hh := [(0, 9, 12, 25)]) hfl (by decide) rfl rfl (Nat.le_of_ble_eq_true rfl) (fun p e s m args below meth c A C hr hnm => ?_)
  refine g_setQ (fun Q hQ => ?_)
  have kw0 := Cx.w C (.classLink RL 25 (xn 3)) (by decide +kernel)
  unfold L_bestToDeclare at hf
  refine g_lve (lv' := [(0, .ref g), (1, .int a0), (2, .ref z)]) rfl ?_
  refine g_aload_n C dL_bestToDeclare_0 1 rfl 2 rfl ?_
  refine g_iconst C dL_bestToDeclare_1 2 rfl ic_0 ?_
  refine g_aload_n C dL_bestToDeclare_2 3 rfl 0 rfl ?_
  refine g_iload_n C dL_bestToDeclare_3 4 rfl 1 rfl ?_
  rcases bc2_s hf with ⟨ne4, e3, hf⟩ | ⟨x1, b2_2, e3, hf⟩
  · refine g_callVx C (m_X1_bestToDeclare_x hfl (g := g) (h1 := h1) (h2 := h2) e3) cf_X1_bestToDeclare gL_bestToDeclare_X1_bestToDeclare ⟨Nat.le_of_ble_eq_true rfl, Nat.le_of_ble_eq_true rfl⟩ (q0 := 0) (As := [.int a0]) (rest := [.int 0, .ref z]) (wl := []) (wr := wO cyJ z o) (c2 := 1) (s2 := 6) rfl rfl rfl rfl rfl rfl (Nat.le_of_ble_eq_true rfl) rfl rfl ⟨Nat.le_of_ble_eq_true rfl, Nat.le_of_ble_eq_true rfl⟩ dL_bestToDeclare_4 7 rfl ?_
    by_cases c8 : ne4 = 3
    · have hf := ifp c8 hf
      subst c8
      refine g_xcatch C [] ⟨0, 9, 12, 25⟩ [] rfl (fun z h => by cases h) (by decide) (by decide) kw0 (by decide) 12 rfl (fun z7 => ?_)
      refine g_astore_n C dL_bestToDeclare_12 13 rfl (by decide) (lv' := [(3, .ref z7), (0, .ref g), (1, .int a0), (2, .ref z)]) rfl ?_
      refine g_iconst C dL_bestToDeclare_13 14 rfl ic_1 ?_
      refine g_Q hQ ?_
      exact g_iret C hr (by cases hf; rfl) (Nat.le_of_ble_eq_true rfl) (Nat.le_of_ble_eq_true rfl) dL_bestToDeclare_14
    · have hf := ifn c8 hf
      cases hf
  · refine g_callV1 C (m_X1_bestToDeclare_r hfl (g := g) (h1 := h1) (h2 := h2) e3) cf_X1_bestToDeclare gL_bestToDeclare_X1_bestToDeclare ⟨Nat.le_of_ble_eq_true rfl, Nat.le_of_ble_eq_true rfl⟩ (q0 := 0) (As := [.int a0]) (rest := [.int 0, .ref z]) (wl := []) (wr := wO cyJ z o) (c2 := 1) (s2 := 6) rfl rfl rfl rfl rfl rfl (Nat.le_of_ble_eq_true rfl) rfl rfl ⟨Nat.le_of_ble_eq_true rfl, Nat.le_of_ble_eq_true rfl⟩ dL_bestToDeclare_4 7 rfl (ws2 := wC g h1 h2 ++ (wB cyI h1 b1 ++ (wB cyI h2 b2_2 ++ wO cyJ z o))) rfl (st2 := [.int x1, .int 0, .ref z]) rfl ?_
    refine g_i2l C dL_bestToDeclare_7 8 rfl ?_
    obtain ⟨o_6, e5, hf⟩ := bd1_s hf
    refine g_last C 23 2 rfl rfl (stL_in e5) (st_44 (cyI := cyI) (cyZ := cyZ) (cyJ := cyJ) e5) dL_bestToDeclare_8 9 rfl ?_
    refine g_goto C dL_bestToDeclare_9 15 (by decide) ?_
    refine g_iconst C dL_bestToDeclare_15 16 rfl ic_0 ?_
    refine g_Q hQ ?_
    exact g_iret C hr (by cases hf; rfl) (Nat.le_of_ble_eq_true rfl) (Nat.le_of_ble_eq_true rfl) dL_bestToDeclare_16
