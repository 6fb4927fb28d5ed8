/-! the machine does what the functions say (laid by wip/p35/gen) -/
abbrev rm_X1_addGuard : Room := { frames := 6, cells := 1, slots := 6, locals := 82 }
theorem cf_X1_addGuard : CF yX1_addGuard wsX1_addGuard rm_X1_addGuard cX1_addGuard 1 (some .int) 0 1 6 RX1 := ⟨⟨_, rfl⟩, rfl, rfl, rfl, by decide, by decide, by decide +kernel⟩
set_option maxHeartbeats 4000000 in
set_option maxRecDepth 100000 in
theorem m_X1_addGuard {l : Launch} (hfl : l.stackTraces = false) {D : va_G} {cyI cyZ cyJ : ClassId} {sc : SC} {g : Nat} {h1 : Nat → Nat} {b1 : S2} {h2 : Nat → Nat} {b2 : S2} {r : Nat ⊕ (Int32 × S2)} (hf : X1_addGuard b1 b2 = some r) : Ct (ev_s, sc) l yX1_addGuard wsX1_addGuard rm_X1_addGuard D (ty3 cyI cyZ cyJ) [.ref g] (wC g h1 h2 ++ (wB cyI h1 b1 ++ wB cyI h2 b2)) (fun o => o = Sum.elim Sum.inl (fun q => Sum.inr (some (.int q.1), wC g h1 h2 ++ (wB cyI h1 q.2 ++ wB cyI h2 b2))) r) 1 6 := by
  refine ct_of (cc := cX1_addGuard) (nL := 1) (own := RX1) (ret := (some .int)) hfl (by decide) rfl rfl (Nat.le_of_ble_eq_true rfl) (fun p e s m args below meth c A C hr hnm => ?_)
  refine g_setQ (fun Q hQ => ?_)
  have kw0 := Cx.w C (.fieldLink RX1 10 "SleepBorder" "now" "LSleepBorder$Border;") (by decide +kernel)
  have iX1 : ∀ w ∈ u_ws RX1 TX1 2, w ∈ wsX1_addGuard := by decide +kernel
  have kw2 := Cx.w C (.fieldLink RX1 19 "SleepBorder$Border" "guardCount" "I") (by decide +kernel)
  have iX0 : ∀ w ∈ u_ws RX0 TX0 15, w ∈ wsX1_addGuard := by decide +kernel
  have kw4 := Cx.w C (.classLink RX1 23 (xn 1)) (by decide +kernel)
  have kw5 := Cx.w C (.initialized (xn 1)) (by decide +kernel)
  have ka27 : ∀ w ∈ (vx_atS RX1 27 (xn 1) nms).filter goodWord, w.before args s = true := fun w h => Cx.w C w ((by decide +kernel : ∀ w ∈ (vx_atS RX1 27 (xn 1) nms).filter goodWord, w ∈ wsX1_addGuard) w h)
  unfold X1_addGuard at hf
  refine g_lve (lv' := [(0, .ref g)]) rfl ?_
  refine g_aload_n C dX1_addGuard_0 1 rfl 0 rfl ?_
  refine g_get C iX1 0 rfl rfl 0 (by decide) kw0 rfl rfl dX1_addGuard_1 4 rfl ?_
  refine g_get C iX0 1 rfl rfl 11 (by decide) kw2 rfl rfl dX1_addGuard_4 7 rfl ?_
  refine g_iconst C dX1_addGuard_7 8 rfl ic_4 ?_
  refine g_icmp_lt C dX1_addGuard_8 21 11 (by decide) rfl (fun c1 => ?_) (fun c1 => ?_)
  · have hf := ifp c1 hf
    refine g_aload_n C dX1_addGuard_21 22 rfl 0 rfl ?_
    refine g_get C iX1 0 rfl rfl 0 (by decide) kw0 rfl rfl dX1_addGuard_22 25 rfl ?_
    obtain ⟨b1_2, e3, hf⟩ := bd1_s hf
    refine g_callV1 C (m_X0_admitGuard hfl (h := h1) e3) cf_X0_admitGuard gX1_addGuard_X0_admitGuard ⟨Nat.le_of_ble_eq_true rfl, Nat.le_of_ble_eq_true rfl⟩ (q0 := 0) (As := []) (rest := []) (wl := wC g h1 h2) (wr := wB cyI h2 b2) (c2 := 0) (s2 := 0) rfl rfl rfl rfl rfl rfl (Nat.le_of_ble_eq_true rfl) rfl rfl ⟨Nat.le_of_ble_eq_true rfl, Nat.le_of_ble_eq_true rfl⟩ dX1_addGuard_25 28 rfl (ws2 := wC g h1 h2 ++ (wB cyI h1 b1_2 ++ wB cyI h2 b2)) rfl (st2 := []) rfl ?_
    refine g_aload_n C dX1_addGuard_28 29 rfl 0 rfl ?_
    refine g_get C iX1 0 rfl rfl 0 (by decide) kw0 rfl rfl dX1_addGuard_29 32 rfl ?_
    refine g_get C iX0 1 rfl rfl 11 (by decide) kw2 rfl rfl dX1_addGuard_32 35 rfl ?_
    refine g_iconst C dX1_addGuard_35 36 rfl ic_1 ?_
    refine g_isub C dX1_addGuard_36 37 rfl ?_
    refine g_Q hQ ?_
    exact g_iret C hr (by cases hf; rfl) (Nat.le_of_ble_eq_true rfl) (Nat.le_of_ble_eq_true rfl) dX1_addGuard_37
  · have hf := ifn c1 hf
    refine g_Q hQ (g_throw C (n := 1) (ik := 23) (is := 25) (ic := 27) (text := "there are 4 guards") (show (RX1, 25, "there are 4 guards") ∈ ev_s by decide) kw4 kw5 ka27 (by decide +kernel) (by decide +kernel) (by decide +kernel) (by cases hf; rfl) rfl (Nat.le_of_ble_eq_true rfl) (Nat.le_of_ble_eq_true rfl) (Nat.le_of_ble_eq_true rfl) (Nat.le_of_ble_eq_true rfl) (Nat.le_of_ble_eq_true rfl) (Nat.le_of_ble_eq_true rfl) dX1_addGuard_11 dX1_addGuard_14 dX1_addGuard_15 dX1_addGuard_17 dX1_addGuard_20)
theorem m_X1_addGuard_r {l : Launch} (hfl : l.stackTraces = false) {D : va_G} {cyI cyZ cyJ : ClassId} {sc : SC} {g : Nat} {h1 : Nat → Nat} {b1 : S2} {h2 : Nat → Nat} {b2 : S2} {rx : Int32} {rb1 : S2} (hf : X1_addGuard b1 b2 = some (.inr (rx, rb1))) : Ct (ev_s, sc) l yX1_addGuard wsX1_addGuard rm_X1_addGuard D (ty3 cyI cyZ cyJ) [.ref g] (wC g h1 h2 ++ (wB cyI h1 b1 ++ wB cyI h2 b2)) (fun o => o = .inr (some (.int rx), wC g h1 h2 ++ (wB cyI h1 rb1 ++ wB cyI h2 b2))) 1 6 := m_X1_addGuard hfl hf
theorem m_X1_addGuard_x {l : Launch} (hfl : l.stackTraces = false) {D : va_G} {cyI cyZ cyJ : ClassId} {sc : SC} {g : Nat} {h1 : Nat → Nat} {b1 : S2} {h2 : Nat → Nat} {b2 : S2} {n : Nat} (hf : X1_addGuard b1 b2 = some (.inl n)) : Ct (ev_s, sc) l yX1_addGuard wsX1_addGuard rm_X1_addGuard D (ty3 cyI cyZ cyJ) [.ref g] (wC g h1 h2 ++ (wB cyI h1 b1 ++ wB cyI h2 b2)) (fun o => o = .inl n) 1 6 := m_X1_addGuard hfl hf
abbrev rm_X1_requireDigit : Room := { frames := 6, cells := 1, slots := 6, locals := 82 }
theorem cf_X1_requireDigit : CF yX1_requireDigit wsX1_requireDigit rm_X1_requireDigit cX1_requireDigit 1 none 1 1 6 RX1 := ⟨⟨_, rfl⟩, rfl, rfl, rfl, by decide, by decide, by decide +kernel⟩
set_option maxHeartbeats 4000000 in
set_option maxRecDepth 100000 in
theorem m_X1_requireDigit {l : Launch} (hfl : l.stackTraces = false) {D : va_G} {cyI cyZ cyJ : ClassId} {sc : SC}  {a0 : Int32} {r : Nat ⊕ (Unit)} (hf : X1_requireDigit a0 = some r) : Ct (ev_s, sc) l yX1_requireDigit wsX1_requireDigit rm_X1_requireDigit D (ty3 cyI cyZ cyJ) [.int a0] ([]) (fun o => o = Sum.elim Sum.inl (fun q => Sum.inr (none, [])) r) 1 6 := by
  refine ct_of (cc := cX1_requireDigit) (nL := 1) (own := RX1) (ret := none) hfl (by decide) rfl rfl (Nat.le_of_ble_eq_true rfl) (fun p e s m args below meth c A C hr hnm => ?_)
  refine g_setQ (fun Q hQ => ?_)
  have kw0 := Cx.w C (.classLink RX1 218 (xn 2)) (by decide +kernel)
  have kw1 := Cx.w C (.initialized (xn 2)) (by decide +kernel)
  have ka222 : ∀ w ∈ (vx_atS RX1 222 (xn 2) nms).filter goodWord, w.before args s = true := fun w h => Cx.w C w ((by decide +kernel : ∀ w ∈ (vx_atS RX1 222 (xn 2) nms).filter goodWord, w ∈ wsX1_requireDigit) w h)
  unfold X1_requireDigit at hf
  refine g_lve (lv' := [(0, .int a0)]) rfl ?_
  refine g_iload_n C dX1_requireDigit_0 1 rfl 0 rfl ?_
  refine g_if_lt C dX1_requireDigit_1 10 4 (by decide) rfl (fun c1 => ?_) (fun c1 => ?_)
  · have hf := ifp c1 hf
    refine g_Q hQ (g_throw C (n := 2) (ik := 218) (is := 220) (ic := 222) (text := "a number is not 0 to 9") (show (RX1, 220, "a number is not 0 to 9") ∈ ev_s by decide) kw0 kw1 ka222 (by decide +kernel) (by decide +kernel) (by decide +kernel) (by cases hf; rfl) rfl (Nat.le_of_ble_eq_true rfl) (Nat.le_of_ble_eq_true rfl) (Nat.le_of_ble_eq_true rfl) (Nat.le_of_ble_eq_true rfl) (Nat.le_of_ble_eq_true rfl) (Nat.le_of_ble_eq_true rfl) dX1_requireDigit_10 dX1_requireDigit_13 dX1_requireDigit_14 dX1_requireDigit_16 dX1_requireDigit_19)
  · have hf := ifn c1 hf
    refine g_iload_n C dX1_requireDigit_4 5 rfl 0 rfl ?_
    refine g_bipush C dX1_requireDigit_5 7 rfl bp_9 ?_
    refine g_icmp_le C dX1_requireDigit_7 20 10 (by decide) rfl (fun c2 => ?_) (fun c2 => ?_)
    · have hf := ifp c2 hf
      refine g_Q hQ ?_
      exact g_vret C hr (by cases hf; rfl) (Nat.le_of_ble_eq_true rfl) (Nat.le_of_ble_eq_true rfl) dX1_requireDigit_20
    · have hf := ifn c2 hf
      refine g_Q hQ (g_throw C (n := 2) (ik := 218) (is := 220) (ic := 222) (text := "a number is not 0 to 9") (show (RX1, 220, "a number is not 0 to 9") ∈ ev_s by decide) kw0 kw1 ka222 (by decide +kernel) (by decide +kernel) (by decide +kernel) (by cases hf; rfl) rfl (Nat.le_of_ble_eq_true rfl) (Nat.le_of_ble_eq_true rfl) (Nat.le_of_ble_eq_true rfl) (Nat.le_of_ble_eq_true rfl) (Nat.le_of_ble_eq_true rfl) (Nat.le_of_ble_eq_true rfl) dX1_requireDigit_10 dX1_requireDigit_13 dX1_requireDigit_14 dX1_requireDigit_16 dX1_requireDigit_19)
theorem m_X1_requireDigit_r {l : Launch} (hfl : l.stackTraces = false) {D : va_G} {cyI cyZ cyJ : ClassId} {sc : SC}  {a0 : Int32} (hf : X1_requireDigit a0 = some (.inr ())) : Ct (ev_s, sc) l yX1_requireDigit wsX1_requireDigit rm_X1_requireDigit D (ty3 cyI cyZ cyJ) [.int a0] ([]) (fun o => o = .inr (none, [])) 1 6 := m_X1_requireDigit hfl hf
theorem m_X1_requireDigit_x {l : Launch} (hfl : l.stackTraces = false) {D : va_G} {cyI cyZ cyJ : ClassId} {sc : SC}  {a0 : Int32} {n : Nat} (hf : X1_requireDigit a0 = some (.inl n)) : Ct (ev_s, sc) l yX1_requireDigit wsX1_requireDigit rm_X1_requireDigit D (ty3 cyI cyZ cyJ) [.int a0] ([]) (fun o => o = .inl n) 1 6 := m_X1_requireDigit hfl hf
abbrev rm_X1_requireMinutes : Room := { frames := 6, cells := 1, slots := 6, locals := 82 }
theorem cf_X1_requireMinutes : CF yX1_requireMinutes wsX1_requireMinutes rm_X1_requireMinutes cX1_requireMinutes 1 none 1 1 6 RX1 := ⟨⟨_, rfl⟩, rfl, rfl, rfl, by decide, by decide, by decide +kernel⟩
set_option maxHeartbeats 4000000 in
set_option maxRecDepth 100000 in
theorem m_X1_requireMinutes {l : Launch} (hfl : l.stackTraces = false) {D : va_G} {cyI cyZ cyJ : ClassId} {sc : SC}  {a0 : Int32} {r : Nat ⊕ (Unit)} (hf : X1_requireMinutes a0 = some r) : Ct (ev_s, sc) l yX1_requireMinutes wsX1_requireMinutes rm_X1_requireMinutes D (ty3 cyI cyZ cyJ) [.int a0] ([]) (fun o => o = Sum.elim Sum.inl (fun q => Sum.inr (none, [])) r) 1 6 := by
  refine ct_of (cc := cX1_requireMinutes) (nL := 1) (own := RX1) (ret := none) hfl (by decide) rfl rfl (Nat.le_of_ble_eq_true rfl) (fun p e s m args below meth c A C hr hnm => ?_)
  refine g_setQ (fun Q hQ => ?_)
  have kw0 := Cx.w C (.classLink RX1 218 (xn 2)) (by decide +kernel)
  have kw1 := Cx.w C (.initialized (xn 2)) (by decide +kernel)
  have ka222 : ∀ w ∈ (vx_atS RX1 222 (xn 2) nms).filter goodWord, w.before args s = true := fun w h => Cx.w C w ((by decide +kernel : ∀ w ∈ (vx_atS RX1 222 (xn 2) nms).filter goodWord, w ∈ wsX1_requireMinutes) w h)
  unfold X1_requireMinutes at hf
  refine g_lve (lv' := [(0, .int a0)]) rfl ?_
  refine g_iload_n C dX1_requireMinutes_0 1 rfl 0 rfl ?_
  refine g_iconst C dX1_requireMinutes_1 2 rfl ic_1 ?_
  refine g_icmp_lt C dX1_requireMinutes_2 11 5 (by decide) rfl (fun c1 => ?_) (fun c1 => ?_)
  · have hf := ifp c1 hf
    refine g_Q hQ (g_throw C (n := 2) (ik := 218) (is := 223) (ic := 222) (text := "the minutes are not 1 to 60") (show (RX1, 223, "the minutes are not 1 to 60") ∈ ev_s by decide) kw0 kw1 ka222 (by decide +kernel) (by decide +kernel) (by decide +kernel) (by cases hf; rfl) rfl (Nat.le_of_ble_eq_true rfl) (Nat.le_of_ble_eq_true rfl) (Nat.le_of_ble_eq_true rfl) (Nat.le_of_ble_eq_true rfl) (Nat.le_of_ble_eq_true rfl) (Nat.le_of_ble_eq_true rfl) dX1_requireMinutes_11 dX1_requireMinutes_14 dX1_requireMinutes_15 dX1_requireMinutes_17 dX1_requireMinutes_20)
  · have hf := ifn c1 hf
    refine g_iload_n C dX1_requireMinutes_5 6 rfl 0 rfl ?_
    refine g_bipush C dX1_requireMinutes_6 8 rfl bp_60 ?_
    refine g_icmp_le C dX1_requireMinutes_8 21 11 (by decide) rfl (fun c2 => ?_) (fun c2 => ?_)
    · have hf := ifp c2 hf
      refine g_Q hQ ?_
      exact g_vret C hr (by cases hf; rfl) (Nat.le_of_ble_eq_true rfl) (Nat.le_of_ble_eq_true rfl) dX1_requireMinutes_21
    · have hf := ifn c2 hf
      refine g_Q hQ (g_throw C (n := 2) (ik := 218) (is := 223) (ic := 222) (text := "the minutes are not 1 to 60") (show (RX1, 223, "the minutes are not 1 to 60") ∈ ev_s by decide) kw0 kw1 ka222 (by decide +kernel) (by decide +kernel) (by decide +kernel) (by cases hf; rfl) rfl (Nat.le_of_ble_eq_true rfl) (Nat.le_of_ble_eq_true rfl) (Nat.le_of_ble_eq_true rfl) (Nat.le_of_ble_eq_true rfl) (Nat.le_of_ble_eq_true rfl) (Nat.le_of_ble_eq_true rfl) dX1_requireMinutes_11 dX1_requireMinutes_14 dX1_requireMinutes_15 dX1_requireMinutes_17 dX1_requireMinutes_20)
theorem m_X1_requireMinutes_r {l : Launch} (hfl : l.stackTraces = false) {D : va_G} {cyI cyZ cyJ : ClassId} {sc : SC}  {a0 : Int32} (hf : X1_requireMinutes a0 = some (.inr ())) : Ct (ev_s, sc) l yX1_requireMinutes wsX1_requireMinutes rm_X1_requireMinutes D (ty3 cyI cyZ cyJ) [.int a0] ([]) (fun o => o = .inr (none, [])) 1 6 := m_X1_requireMinutes hfl hf
theorem m_X1_requireMinutes_x {l : Launch} (hfl : l.stackTraces = false) {D : va_G} {cyI cyZ cyJ : ClassId} {sc : SC}  {a0 : Int32} {n : Nat} (hf : X1_requireMinutes a0 = some (.inl n)) : Ct (ev_s, sc) l yX1_requireMinutes wsX1_requireMinutes rm_X1_requireMinutes D (ty3 cyI cyZ cyJ) [.int a0] ([]) (fun o => o = .inl n) 1 6 := m_X1_requireMinutes hfl hf
abbrev rm_X1_arrive : Room := { frames := 7, cells := 5, slots := 30, locals := 102 }
theorem cf_X1_arrive : CF yX1_arrive wsX1_arrive rm_X1_arrive cX1_arrive 5 (some .int) 4 5 30 RX1 := ⟨⟨_, rfl⟩, rfl, rfl, rfl, by decide, by decide, by decide +kernel⟩
set_option maxHeartbeats 4000000 in
set_option maxRecDepth 100000 in
theorem m_X1_arrive {l : Launch} (hfl : l.stackTraces = false) {D : va_G} {cyI cyZ cyJ : ClassId} {sc : SC} {g : Nat} {h1 : Nat → Nat} {b1 : S2} {h2 : Nat → Nat} {b2 : S2} {a0 : Int32} {a1 : Int32} {a2 : Int32} {a3 : Int32} {r : Nat ⊕ (Int32 × S2)} (hf : X1_arrive b1 b2 a0 a1 a2 a3 = some r) : Ct (ev_s, sc) l yX1_arrive wsX1_arrive rm_X1_arrive D (ty3 cyI cyZ cyJ) [.ref g, .int a0, .int a1, .int a2, .int a3] (wC g h1 h2 ++ (wB cyI h1 b1 ++ wB cyI h2 b2)) (fun o => o = Sum.elim Sum.inl (fun q => Sum.inr (some (.int q.1), wC g h1 h2 ++ (wB cyI h1 q.2 ++ wB cyI h2 b2))) r) 5 30 := by
  refine ct_of (cc := cX1_arrive) (nL := 5) (own := RX1) (ret := (some .int)) hfl (by decide) rfl rfl (Nat.le_of_ble_eq_true rfl) (fun p e s m args below meth c A C hr hnm => ?_)
  refine g_setQ (fun Q hQ => ?_)
  have kw0 := Cx.w C (.fieldLink RX1 10 "SleepBorder" "now" "LSleepBorder$Border;") (by decide +kernel)
  have iX1 : ∀ w ∈ u_ws RX1 TX1 2, w ∈ wsX1_arrive := by decide +kernel
  have kw2 := Cx.w C (.fieldLink RX1 40 "SleepBorder$Border" "travellerCount" "I") (by decide +kernel)
  have iX0 : ∀ w ∈ u_ws RX0 TX0 15, w ∈ wsX1_arrive := by decide +kernel
  have kw4 := Cx.w C (.classLink RX1 23 (xn 1)) (by decide +kernel)
  have kw5 := Cx.w C (.initialized (xn 1)) (by decide +kernel)
  have ka27 : ∀ w ∈ (vx_atS RX1 27 (xn 1) nms).filter goodWord, w.before args s = true := fun w h => Cx.w C w ((by decide +kernel : ∀ w ∈ (vx_atS RX1 27 (xn 1) nms).filter goodWord, w ∈ wsX1_arrive) w h)
  unfold X1_arrive at hf
  refine g_lve (lv' := [(0, .ref g), (1, .int a0), (2, .int a1), (3, .int a2), (4, .int a3)]) rfl ?_
  refine g_iload_n C dX1_arrive_0 1 rfl 1 rfl ?_
  rcases bx0_s hf with ⟨ne2, e1, e3⟩ | ⟨e1, hf⟩
  · exact g_callSx C (m_X1_requireDigit_x hfl  e1) cf_X1_requireDigit gX1_arrive_X1_requireDigit ⟨Nat.le_of_ble_eq_true rfl, Nat.le_of_ble_eq_true rfl⟩ (As := [.int a0]) (rest := []) (wl := []) (wr := wC g h1 h2 ++ (wB cyI h1 b1 ++ wB cyI h2 b2)) (c2 := 1) (s2 := 6) rfl rfl rfl (Nat.le_of_ble_eq_true rfl) rfl rfl ⟨Nat.le_of_ble_eq_true rfl, Nat.le_of_ble_eq_true rfl⟩ dX1_arrive_1 4 rfl (g_xQ hQ (g_xout C (by rw [e3]; rfl) rfl (Nat.le_of_ble_eq_true rfl) (Nat.le_of_ble_eq_true rfl)))
  · refine g_callS1 C (m_X1_requireDigit_r hfl  e1) cf_X1_requireDigit gX1_arrive_X1_requireDigit ⟨Nat.le_of_ble_eq_true rfl, Nat.le_of_ble_eq_true rfl⟩ (As := [.int a0]) (rest := []) (wl := []) (wr := wC g h1 h2 ++ (wB cyI h1 b1 ++ wB cyI h2 b2)) (c2 := 1) (s2 := 6) rfl rfl rfl (Nat.le_of_ble_eq_true rfl) rfl rfl ⟨Nat.le_of_ble_eq_true rfl, Nat.le_of_ble_eq_true rfl⟩ dX1_arrive_1 4 rfl (ws2 := wC g h1 h2 ++ (wB cyI h1 b1 ++ wB cyI h2 b2)) rfl (st2 := []) rfl ?_
    refine g_iload_n C dX1_arrive_4 5 rfl 2 rfl ?_
    rcases bx0_s hf with ⟨ne5, e4, e6⟩ | ⟨e4, hf⟩
    · exact g_callSx C (m_X1_requireDigit_x hfl  e4) cf_X1_requireDigit gX1_arrive_X1_requireDigit ⟨Nat.le_of_ble_eq_true rfl, Nat.le_of_ble_eq_true rfl⟩ (As := [.int a1]) (rest := []) (wl := []) (wr := wC g h1 h2 ++ (wB cyI h1 b1 ++ wB cyI h2 b2)) (c2 := 2) (s2 := 12) rfl rfl rfl (Nat.le_of_ble_eq_true rfl) rfl rfl ⟨Nat.le_of_ble_eq_true rfl, Nat.le_of_ble_eq_true rfl⟩ dX1_arrive_5 8 rfl (g_xQ hQ (g_xout C (by rw [e6]; rfl) rfl (Nat.le_of_ble_eq_true rfl) (Nat.le_of_ble_eq_true rfl)))
    · refine g_callS1 C (m_X1_requireDigit_r hfl  e4) cf_X1_requireDigit gX1_arrive_X1_requireDigit ⟨Nat.le_of_ble_eq_true rfl, Nat.le_of_ble_eq_true rfl⟩ (As := [.int a1]) (rest := []) (wl := []) (wr := wC g h1 h2 ++ (wB cyI h1 b1 ++ wB cyI h2 b2)) (c2 := 2) (s2 := 12) rfl rfl rfl (Nat.le_of_ble_eq_true rfl) rfl rfl ⟨Nat.le_of_ble_eq_true rfl, Nat.le_of_ble_eq_true rfl⟩ dX1_arrive_5 8 rfl (ws2 := wC g h1 h2 ++ (wB cyI h1 b1 ++ wB cyI h2 b2)) rfl (st2 := []) rfl ?_
      refine g_iload_n C dX1_arrive_8 9 rfl 3 rfl ?_
      rcases bx0_s hf with ⟨ne8, e7, e9⟩ | ⟨e7, hf⟩
      · exact g_callSx C (m_X1_requireDigit_x hfl  e7) cf_X1_requireDigit gX1_arrive_X1_requireDigit ⟨Nat.le_of_ble_eq_true rfl, Nat.le_of_ble_eq_true rfl⟩ (As := [.int a2]) (rest := []) (wl := []) (wr := wC g h1 h2 ++ (wB cyI h1 b1 ++ wB cyI h2 b2)) (c2 := 3) (s2 := 18) rfl rfl rfl (Nat.le_of_ble_eq_true rfl) rfl rfl ⟨Nat.le_of_ble_eq_true rfl, Nat.le_of_ble_eq_true rfl⟩ dX1_arrive_9 12 rfl (g_xQ hQ (g_xout C (by rw [e9]; rfl) rfl (Nat.le_of_ble_eq_true rfl) (Nat.le_of_ble_eq_true rfl)))
      · refine g_callS1 C (m_X1_requireDigit_r hfl  e7) cf_X1_requireDigit gX1_arrive_X1_requireDigit ⟨Nat.le_of_ble_eq_true rfl, Nat.le_of_ble_eq_true rfl⟩ (As := [.int a2]) (rest := []) (wl := []) (wr := wC g h1 h2 ++ (wB cyI h1 b1 ++ wB cyI h2 b2)) (c2 := 3) (s2 := 18) rfl rfl rfl (Nat.le_of_ble_eq_true rfl) rfl rfl ⟨Nat.le_of_ble_eq_true rfl, Nat.le_of_ble_eq_true rfl⟩ dX1_arrive_9 12 rfl (ws2 := wC g h1 h2 ++ (wB cyI h1 b1 ++ wB cyI h2 b2)) rfl (st2 := []) rfl ?_
        refine g_iload C dX1_arrive_12 14 rfl 4 rfl ?_
        rcases bx0_s hf with ⟨ne11, e10, e12⟩ | ⟨e10, hf⟩
        · exact g_callSx C (m_X1_requireMinutes_x hfl  e10) cf_X1_requireMinutes gX1_arrive_X1_requireMinutes ⟨Nat.le_of_ble_eq_true rfl, Nat.le_of_ble_eq_true rfl⟩ (As := [.int a3]) (rest := []) (wl := []) (wr := wC g h1 h2 ++ (wB cyI h1 b1 ++ wB cyI h2 b2)) (c2 := 4) (s2 := 24) rfl rfl rfl (Nat.le_of_ble_eq_true rfl) rfl rfl ⟨Nat.le_of_ble_eq_true rfl, Nat.le_of_ble_eq_true rfl⟩ dX1_arrive_14 17 rfl (g_xQ hQ (g_xout C (by rw [e12]; rfl) rfl (Nat.le_of_ble_eq_true rfl) (Nat.le_of_ble_eq_true rfl)))
        · refine g_callS1 C (m_X1_requireMinutes_r hfl  e10) cf_X1_requireMinutes gX1_arrive_X1_requireMinutes ⟨Nat.le_of_ble_eq_true rfl, Nat.le_of_ble_eq_true rfl⟩ (As := [.int a3]) (rest := []) (wl := []) (wr := wC g h1 h2 ++ (wB cyI h1 b1 ++ wB cyI h2 b2)) (c2 := 4) (s2 := 24) rfl rfl rfl (Nat.le_of_ble_eq_true rfl) rfl rfl ⟨Nat.le_of_ble_eq_true rfl, Nat.le_of_ble_eq_true rfl⟩ dX1_arrive_14 17 rfl (ws2 := wC g h1 h2 ++ (wB cyI h1 b1 ++ wB cyI h2 b2)) rfl (st2 := []) rfl ?_
          refine g_aload_n C dX1_arrive_17 18 rfl 0 rfl ?_
          refine g_get C iX1 0 rfl rfl 0 (by decide) kw0 rfl rfl dX1_arrive_18 21 rfl ?_
          refine g_get C iX0 1 rfl rfl 3 (by decide) kw2 rfl rfl dX1_arrive_21 24 rfl ?_
          refine g_bipush C dX1_arrive_24 26 rfl bp_24 ?_
          refine g_icmp_lt C dX1_arrive_26 39 29 (by decide) rfl (fun c13 => ?_) (fun c13 => ?_)
          · have hf := ifp c13 hf
            refine g_aload_n C dX1_arrive_39 40 rfl 0 rfl ?_
            refine g_get C iX1 0 rfl rfl 0 (by decide) kw0 rfl rfl dX1_arrive_40 43 rfl ?_
            refine g_iload_n C dX1_arrive_43 44 rfl 1 rfl ?_
            refine g_iload_n C dX1_arrive_44 45 rfl 2 rfl ?_
            refine g_iload_n C dX1_arrive_45 46 rfl 3 rfl ?_
            refine g_iload C dX1_arrive_46 48 rfl 4 rfl ?_
            obtain ⟨b1_14, e15, hf⟩ := bd1_s hf
            refine g_callV1 C (m_X0_admitTraveller hfl (h := h1) e15) cf_X0_admitTraveller gX1_arrive_X0_admitTraveller ⟨Nat.le_of_ble_eq_true rfl, Nat.le_of_ble_eq_true rfl⟩ (q0 := 0) (As := [.int a0, .int a1, .int a2, .int a3]) (rest := []) (wl := wC g h1 h2) (wr := wB cyI h2 b2) (c2 := 4) (s2 := 24) rfl rfl rfl rfl rfl rfl (Nat.le_of_ble_eq_true rfl) rfl rfl ⟨Nat.le_of_ble_eq_true rfl, Nat.le_of_ble_eq_true rfl⟩ dX1_arrive_48 51 rfl (ws2 := wC g h1 h2 ++ (wB cyI h1 b1_14 ++ wB cyI h2 b2)) rfl (st2 := []) rfl ?_
            refine g_aload_n C dX1_arrive_51 52 rfl 0 rfl ?_
            refine g_get C iX1 0 rfl rfl 0 (by decide) kw0 rfl rfl dX1_arrive_52 55 rfl ?_
            refine g_get C iX0 1 rfl rfl 3 (by decide) kw2 rfl rfl dX1_arrive_55 58 rfl ?_
            refine g_iconst C dX1_arrive_58 59 rfl ic_1 ?_
            refine g_isub C dX1_arrive_59 60 rfl ?_
            refine g_Q hQ ?_
            exact g_iret C hr (by cases hf; rfl) (Nat.le_of_ble_eq_true rfl) (Nat.le_of_ble_eq_true rfl) dX1_arrive_60
          · have hf := ifn c13 hf
            refine g_Q hQ (g_throw C (n := 1) (ik := 23) (is := 43) (ic := 27) (text := "there are 24 travellers") (show (RX1, 43, "there are 24 travellers") ∈ ev_s by decide) kw4 kw5 ka27 (by decide +kernel) (by decide +kernel) (by decide +kernel) (by cases hf; rfl) rfl (Nat.le_of_ble_eq_true rfl) (Nat.le_of_ble_eq_true rfl) (Nat.le_of_ble_eq_true rfl) (Nat.le_of_ble_eq_true rfl) (Nat.le_of_ble_eq_true rfl) (Nat.le_of_ble_eq_true rfl) dX1_arrive_29 dX1_arrive_32 dX1_arrive_33 dX1_arrive_35 dX1_arrive_38)
theorem m_X1_arrive_r {l : Launch} (hfl : l.stackTraces = false) {D : va_G} {cyI cyZ cyJ : ClassId} {sc : SC} {g : Nat} {h1 : Nat → Nat} {b1 : S2} {h2 : Nat → Nat} {b2 : S2} {a0 : Int32} {a1 : Int32} {a2 : Int32} {a3 : Int32} {rx : Int32} {rb1 : S2} (hf : X1_arrive b1 b2 a0 a1 a2 a3 = some (.inr (rx, rb1))) : Ct (ev_s, sc) l yX1_arrive wsX1_arrive rm_X1_arrive D (ty3 cyI cyZ cyJ) [.ref g, .int a0, .int a1, .int a2, .int a3] (wC g h1 h2 ++ (wB cyI h1 b1 ++ wB cyI h2 b2)) (fun o => o = .inr (some (.int rx), wC g h1 h2 ++ (wB cyI h1 rb1 ++ wB cyI h2 b2))) 5 30 := m_X1_arrive hfl hf
theorem m_X1_arrive_x {l : Launch} (hfl : l.stackTraces = false) {D : va_G} {cyI cyZ cyJ : ClassId} {sc : SC} {g : Nat} {h1 : Nat → Nat} {b1 : S2} {h2 : Nat → Nat} {b2 : S2} {a0 : Int32} {a1 : Int32} {a2 : Int32} {a3 : Int32} {n : Nat} (hf : X1_arrive b1 b2 a0 a1 a2 a3 = some (.inl n)) : Ct (ev_s, sc) l yX1_arrive wsX1_arrive rm_X1_arrive D (ty3 cyI cyZ cyJ) [.ref g, .int a0, .int a1, .int a2, .int a3] (wC g h1 h2 ++ (wB cyI h1 b1 ++ wB cyI h2 b2)) (fun o => o = .inl n) 5 30 := m_X1_arrive hfl hf
abbrev rm_X1_requireTraveller : Room := { frames := 6, cells := 1, slots := 6, locals := 82 }
theorem cf_X1_requireTraveller : CF yX1_requireTraveller wsX1_requireTraveller rm_X1_requireTraveller cX1_requireTraveller 2 none 1 1 6 RX1 := ⟨⟨_, rfl⟩, rfl, rfl, rfl, by decide, by decide, by decide +kernel⟩
set_option maxHeartbeats 4000000 in
set_option maxRecDepth 100000 in
theorem m_X1_requireTraveller {l : Launch} (hfl : l.stackTraces = false) {D : va_G} {cyI cyZ cyJ : ClassId} {sc : SC} {g : Nat} {h1 : Nat → Nat} {b1 : S2} {h2 : Nat → Nat} {b2 : S2} {a0 : Int32} {r : Nat ⊕ (Unit)} (hf : X1_requireTraveller b1 b2 a0 = some r) : Ct (ev_s, sc) l yX1_requireTraveller wsX1_requireTraveller rm_X1_requireTraveller D (ty3 cyI cyZ cyJ) [.ref g, .int a0] (wC g h1 h2 ++ (wB cyI h1 b1 ++ wB cyI h2 b2)) (fun o => o = Sum.elim Sum.inl (fun q => Sum.inr (none, wC g h1 h2 ++ (wB cyI h1 b1 ++ wB cyI h2 b2))) r) 1 6 := by
  refine ct_of (cc := cX1_requireTraveller) (nL := 2) (own := RX1) (ret := none) hfl (by decide) rfl rfl (Nat.le_of_ble_eq_true rfl) (fun p e s m args below meth c A C hr hnm => ?_)
  refine g_setQ (fun Q hQ => ?_)
  have kw0 := Cx.w C (.fieldLink RX1 10 "SleepBorder" "now" "LSleepBorder$Border;") (by decide +kernel)
  have iX1 : ∀ w ∈ u_ws RX1 TX1 2, w ∈ wsX1_requireTraveller := by decide +kernel
  have kw2 := Cx.w C (.classLink RX1 208 (xn 3)) (by decide +kernel)
  have kw3 := Cx.w C (.initialized (xn 3)) (by decide +kernel)
  have ka212 : ∀ w ∈ (vx_atS RX1 212 (xn 3) nms).filter goodWord, w.before args s = true := fun w h => Cx.w C w ((by decide +kernel : ∀ w ∈ (vx_atS RX1 212 (xn 3) nms).filter goodWord, w ∈ wsX1_requireTraveller) w h)
  unfold X1_requireTraveller at hf
  refine g_lve (lv' := [(0, .ref g), (1, .int a0)]) rfl ?_
  refine g_aload_n C dX1_requireTraveller_0 1 rfl 0 rfl ?_
  refine g_get C iX1 0 rfl rfl 0 (by decide) kw0 rfl rfl dX1_requireTraveller_1 4 rfl ?_
  refine g_iload_n C dX1_requireTraveller_4 5 rfl 1 rfl ?_
  obtain ⟨x1, e2, hf⟩ := bd1_s hf
  refine g_callV1 C (m_X0_isTraveller hfl (h := h1) e2) cf_X0_isTraveller gX1_requireTraveller_X0_isTraveller ⟨Nat.le_of_ble_eq_true rfl, Nat.le_of_ble_eq_true rfl⟩ (q0 := 0) (As := [.int a0]) (rest := []) (wl := wC g h1 h2) (wr := wB cyI h2 b2) (c2 := 0) (s2 := 0) rfl rfl rfl rfl rfl rfl (Nat.le_of_ble_eq_true rfl) rfl rfl ⟨Nat.le_of_ble_eq_true rfl, Nat.le_of_ble_eq_true rfl⟩ dX1_requireTraveller_5 8 rfl (ws2 := wC g h1 h2 ++ (wB cyI h1 b1 ++ wB cyI h2 b2)) rfl (st2 := [.int x1]) rfl ?_
  refine g_if_ne C dX1_requireTraveller_8 21 11 (by decide) rfl (fun c3 => ?_) (fun c3 => ?_)
  · have hf := ifn c3 hf
    refine g_Q hQ ?_
    exact g_vret C hr (by cases hf; rfl) (Nat.le_of_ble_eq_true rfl) (Nat.le_of_ble_eq_true rfl) dX1_requireTraveller_21
  · have hf := ifp c3 hf
    refine g_Q hQ (g_throw C (n := 3) (ik := 208) (is := 210) (ic := 212) (text := "there is no such traveller") (show (RX1, 210, "there is no such traveller") ∈ ev_s by decide) kw2 kw3 ka212 (by decide +kernel) (by decide +kernel) (by decide +kernel) (by cases hf; rfl) rfl (Nat.le_of_ble_eq_true rfl) (Nat.le_of_ble_eq_true rfl) (Nat.le_of_ble_eq_true rfl) (Nat.le_of_ble_eq_true rfl) (Nat.le_of_ble_eq_true rfl) (Nat.le_of_ble_eq_true rfl) dX1_requireTraveller_11 dX1_requireTraveller_14 dX1_requireTraveller_15 dX1_requireTraveller_17 dX1_requireTraveller_20)
theorem m_X1_requireTraveller_r {l : Launch} (hfl : l.stackTraces = false) {D : va_G} {cyI cyZ cyJ : ClassId} {sc : SC} {g : Nat} {h1 : Nat → Nat} {b1 : S2} {h2 : Nat → Nat} {b2 : S2} {a0 : Int32} (hf : X1_requireTraveller b1 b2 a0 = some (.inr ())) : Ct (ev_s, sc) l yX1_requireTraveller wsX1_requireTraveller rm_X1_requireTraveller D (ty3 cyI cyZ cyJ) [.ref g, .int a0] (wC g h1 h2 ++ (wB cyI h1 b1 ++ wB cyI h2 b2)) (fun o => o = .inr (none, wC g h1 h2 ++ (wB cyI h1 b1 ++ wB cyI h2 b2))) 1 6 := m_X1_requireTraveller hfl hf
theorem m_X1_requireTraveller_x {l : Launch} (hfl : l.stackTraces = false) {D : va_G} {cyI cyZ cyJ : ClassId} {sc : SC} {g : Nat} {h1 : Nat → Nat} {b1 : S2} {h2 : Nat → Nat} {b2 : S2} {a0 : Int32} {n : Nat} (hf : X1_requireTraveller b1 b2 a0 = some (.inl n)) : Ct (ev_s, sc) l yX1_requireTraveller wsX1_requireTraveller rm_X1_requireTraveller D (ty3 cyI cyZ cyJ) [.ref g, .int a0] (wC g h1 h2 ++ (wB cyI h1 b1 ++ wB cyI h2 b2)) (fun o => o = .inl n) 1 6 := m_X1_requireTraveller hfl hf
abbrev rm_X1_requireWaiting : Room := { frames := 6, cells := 1, slots := 6, locals := 82 }
theorem cf_X1_requireWaiting : CF yX1_requireWaiting wsX1_requireWaiting rm_X1_requireWaiting cX1_requireWaiting 2 none 1 1 6 RX1 := ⟨⟨_, rfl⟩, rfl, rfl, rfl, by decide, by decide, by decide +kernel⟩
set_option maxHeartbeats 4000000 in
set_option maxRecDepth 100000 in
theorem m_X1_requireWaiting {l : Launch} (hfl : l.stackTraces = false) {D : va_G} {cyI cyZ cyJ : ClassId} {sc : SC} {g : Nat} {h1 : Nat → Nat} {b1 : S2} {h2 : Nat → Nat} {b2 : S2} {a0 : Int32} {r : Nat ⊕ (Unit)} (hf : X1_requireWaiting b1 b2 a0 = some r) : Ct (ev_s, sc) l yX1_requireWaiting wsX1_requireWaiting rm_X1_requireWaiting D (ty3 cyI cyZ cyJ) [.ref g, .int a0] (wC g h1 h2 ++ (wB cyI h1 b1 ++ wB cyI h2 b2)) (fun o => o = Sum.elim Sum.inl (fun q => Sum.inr (none, wC g h1 h2 ++ (wB cyI h1 b1 ++ wB cyI h2 b2))) r) 1 6 := by
  refine ct_of (cc := cX1_requireWaiting) (nL := 2) (own := RX1) (ret := none) hfl (by decide) rfl rfl (Nat.le_of_ble_eq_true rfl) (fun p e s m args below meth c A C hr hnm => ?_)
  refine g_setQ (fun Q hQ => ?_)
  have kw0 := Cx.w C (.fieldLink RX1 10 "SleepBorder" "now" "LSleepBorder$Border;") (by decide +kernel)
  have iX1 : ∀ w ∈ u_ws RX1 TX1 2, w ∈ wsX1_requireWaiting := by decide +kernel
  have kw2 := Cx.w C (.fieldLink RX1 91 "SleepBorder$Border" "state" "[I") (by decide +kernel)
  have iX0 : ∀ w ∈ u_ws RX0 TX0 15, w ∈ wsX1_requireWaiting := by decide +kernel
  have kw4 := Cx.w C (.classLink RX1 23 (xn 1)) (by decide +kernel)
  have kw5 := Cx.w C (.initialized (xn 1)) (by decide +kernel)
  have ka27 : ∀ w ∈ (vx_atS RX1 27 (xn 1) nms).filter goodWord, w.before args s = true := fun w h => Cx.w C w ((by decide +kernel : ∀ w ∈ (vx_atS RX1 27 (xn 1) nms).filter goodWord, w ∈ wsX1_requireWaiting) w h)
  unfold X1_requireWaiting at hf
  refine g_lve (lv' := [(0, .ref g), (1, .int a0)]) rfl ?_
  refine g_aload_n C dX1_requireWaiting_0 1 rfl 0 rfl ?_
  refine g_get C iX1 0 rfl rfl 0 (by decide) kw0 rfl rfl dX1_requireWaiting_1 4 rfl ?_
  refine g_get C iX0 1 rfl rfl 8 (by decide) kw2 rfl rfl dX1_requireWaiting_4 7 rfl ?_
  refine g_iload_n C dX1_requireWaiting_7 8 rfl 1 rfl ?_
  obtain ⟨x2, e1, hf⟩ := bd1_s hf
  refine g_iald C 6 0 rfl rfl e1 dX1_requireWaiting_8 9 rfl ?_
  refine g_if_eq C dX1_requireWaiting_9 22 12 (by decide) rfl (fun c3 => ?_) (fun c3 => ?_)
  · have hf := ifp c3 hf
    refine g_Q hQ ?_
    exact g_vret C hr (by cases hf; rfl) (Nat.le_of_ble_eq_true rfl) (Nat.le_of_ble_eq_true rfl) dX1_requireWaiting_22
  · have hf := ifn c3 hf
    refine g_Q hQ (g_throw C (n := 1) (ik := 23) (is := 225) (ic := 27) (text := "this traveller does not wait") (show (RX1, 225, "this traveller does not wait") ∈ ev_s by decide) kw4 kw5 ka27 (by decide +kernel) (by decide +kernel) (by decide +kernel) (by cases hf; rfl) rfl (Nat.le_of_ble_eq_true rfl) (Nat.le_of_ble_eq_true rfl) (Nat.le_of_ble_eq_true rfl) (Nat.le_of_ble_eq_true rfl) (Nat.le_of_ble_eq_true rfl) (Nat.le_of_ble_eq_true rfl) dX1_requireWaiting_12 dX1_requireWaiting_15 dX1_requireWaiting_16 dX1_requireWaiting_18 dX1_requireWaiting_21)
theorem m_X1_requireWaiting_r {l : Launch} (hfl : l.stackTraces = false) {D : va_G} {cyI cyZ cyJ : ClassId} {sc : SC} {g : Nat} {h1 : Nat → Nat} {b1 : S2} {h2 : Nat → Nat} {b2 : S2} {a0 : Int32} (hf : X1_requireWaiting b1 b2 a0 = some (.inr ())) : Ct (ev_s, sc) l yX1_requireWaiting wsX1_requireWaiting rm_X1_requireWaiting D (ty3 cyI cyZ cyJ) [.ref g, .int a0] (wC g h1 h2 ++ (wB cyI h1 b1 ++ wB cyI h2 b2)) (fun o => o = .inr (none, wC g h1 h2 ++ (wB cyI h1 b1 ++ wB cyI h2 b2))) 1 6 := m_X1_requireWaiting hfl hf
theorem m_X1_requireWaiting_x {l : Launch} (hfl : l.stackTraces = false) {D : va_G} {cyI cyZ cyJ : ClassId} {sc : SC} {g : Nat} {h1 : Nat → Nat} {b1 : S2} {h2 : Nat → Nat} {b2 : S2} {a0 : Int32} {n : Nat} (hf : X1_requireWaiting b1 b2 a0 = some (.inl n)) : Ct (ev_s, sc) l yX1_requireWaiting wsX1_requireWaiting rm_X1_requireWaiting D (ty3 cyI cyZ cyJ) [.ref g, .int a0] (wC g h1 h2 ++ (wB cyI h1 b1 ++ wB cyI h2 b2)) (fun o => o = .inl n) 1 6 := m_X1_requireWaiting hfl hf
abbrev rm_X1_declare : Room := { frames := 7, cells := 3, slots := 18, locals := 103 }
theorem cf_X1_declare : CF yX1_declare wsX1_declare rm_X1_declare cX1_declare 4 (some .int) 2 3 18 RX1 := ⟨⟨_, rfl⟩, rfl, rfl, rfl, by decide, by decide, by decide +kernel⟩
set_option maxHeartbeats 4000000 in
set_option maxRecDepth 100000 in
theorem m_X1_declare {l : Launch} (hfl : l.stackTraces = false) {D : va_G} {cyI cyZ cyJ : ClassId} {sc : SC} {g : Nat} {h1 : Nat → Nat} {b1 : S2} {h2 : Nat → Nat} {b2 : S2} {a0 : Int32} {a1 : Int32} {r : Nat ⊕ (Int32 × S2)} (hf : X1_declare b1 b2 a0 a1 = some r) : Ct (ev_s, sc) l yX1_declare wsX1_declare rm_X1_declare D (ty3 cyI cyZ cyJ) [.ref g, .int a0, .int a1] (wC g h1 h2 ++ (wB cyI h1 b1 ++ wB cyI h2 b2)) (fun o => o = Sum.elim Sum.inl (fun q => Sum.inr (some (.int q.1), wC g h1 h2 ++ (wB cyI h1 q.2 ++ wB cyI h2 b2))) r) 3 18 := by
  refine ct_of (cc := cX1_declare) (nL := 4) (own := RX1) (ret := (some .int)) hfl (by decide) rfl rfl (Nat.le_of_ble_eq_true rfl) (fun p e s m args below meth c A C hr hnm => ?_)
  refine g_setQ (fun Q hQ => ?_)
  have kw0 := Cx.w C (.fieldLink RX1 10 "SleepBorder" "now" "LSleepBorder$Border;") (by decide +kernel)
  have iX1 : ∀ w ∈ u_ws RX1 TX1 2, w ∈ wsX1_declare := by decide +kernel
  have kw2 := Cx.w C (.fieldLink RX1 55 "SleepBorder$Border" "declared" "[I") (by decide +kernel)
  have iX0 : ∀ w ∈ u_ws RX0 TX0 15, w ∈ wsX1_declare := by decide +kernel
  unfold X1_declare at hf
  refine g_lve (lv' := [(0, .ref g), (1, .int a0), (2, .int a1)]) rfl ?_
  refine g_aload_n C dX1_declare_0 1 rfl 0 rfl ?_
  refine g_iload_n C dX1_declare_1 2 rfl 1 rfl ?_
  rcases bx0_s hf with ⟨ne2, e1, e3⟩ | ⟨e1, hf⟩
  · exact g_callVx C (m_X1_requireTraveller_x hfl (g := g) (h1 := h1) (h2 := h2) e1) cf_X1_requireTraveller gX1_declare_X1_requireTraveller ⟨Nat.le_of_ble_eq_true rfl, Nat.le_of_ble_eq_true rfl⟩ (q0 := 0) (As := [.int a0]) (rest := []) (wl := []) (wr := []) (c2 := 1) (s2 := 6) rfl rfl rfl rfl rfl rfl (Nat.le_of_ble_eq_true rfl) rfl rfl ⟨Nat.le_of_ble_eq_true rfl, Nat.le_of_ble_eq_true rfl⟩ dX1_declare_2 5 rfl (g_xQ hQ (g_xout C (by rw [e3]; rfl) rfl (Nat.le_of_ble_eq_true rfl) (Nat.le_of_ble_eq_true rfl)))
  · refine g_callV1 C (m_X1_requireTraveller_r hfl (g := g) (h1 := h1) (h2 := h2) e1) cf_X1_requireTraveller gX1_declare_X1_requireTraveller ⟨Nat.le_of_ble_eq_true rfl, Nat.le_of_ble_eq_true rfl⟩ (q0 := 0) (As := [.int a0]) (rest := []) (wl := []) (wr := []) (c2 := 1) (s2 := 6) rfl rfl rfl rfl rfl rfl (Nat.le_of_ble_eq_true rfl) rfl rfl ⟨Nat.le_of_ble_eq_true rfl, Nat.le_of_ble_eq_true rfl⟩ dX1_declare_2 5 rfl (ws2 := wC g h1 h2 ++ (wB cyI h1 b1 ++ wB cyI h2 b2)) rfl (st2 := []) rfl ?_
    refine g_iload_n C dX1_declare_5 6 rfl 2 rfl ?_
    rcases bx0_s hf with ⟨ne5, e4, e6⟩ | ⟨e4, hf⟩
    · exact g_callSx C (m_X1_requireDigit_x hfl  e4) cf_X1_requireDigit gX1_declare_X1_requireDigit ⟨Nat.le_of_ble_eq_true rfl, Nat.le_of_ble_eq_true rfl⟩ (As := [.int a1]) (rest := []) (wl := []) (wr := wC g h1 h2 ++ (wB cyI h1 b1 ++ wB cyI h2 b2)) (c2 := 2) (s2 := 12) rfl rfl rfl (Nat.le_of_ble_eq_true rfl) rfl rfl ⟨Nat.le_of_ble_eq_true rfl, Nat.le_of_ble_eq_true rfl⟩ dX1_declare_6 9 rfl (g_xQ hQ (g_xout C (by rw [e6]; rfl) rfl (Nat.le_of_ble_eq_true rfl) (Nat.le_of_ble_eq_true rfl)))
    · refine g_callS1 C (m_X1_requireDigit_r hfl  e4) cf_X1_requireDigit gX1_declare_X1_requireDigit ⟨Nat.le_of_ble_eq_true rfl, Nat.le_of_ble_eq_true rfl⟩ (As := [.int a1]) (rest := []) (wl := []) (wr := wC g h1 h2 ++ (wB cyI h1 b1 ++ wB cyI h2 b2)) (c2 := 2) (s2 := 12) rfl rfl rfl (Nat.le_of_ble_eq_true rfl) rfl rfl ⟨Nat.le_of_ble_eq_true rfl, Nat.le_of_ble_eq_true rfl⟩ dX1_declare_6 9 rfl (ws2 := wC g h1 h2 ++ (wB cyI h1 b1 ++ wB cyI h2 b2)) rfl (st2 := []) rfl ?_
      refine g_aload_n C dX1_declare_9 10 rfl 0 rfl ?_
      refine g_iload_n C dX1_declare_10 11 rfl 1 rfl ?_
      rcases bx0_s hf with ⟨ne8, e7, e9⟩ | ⟨e7, hf⟩
      · exact g_callVx C (m_X1_requireWaiting_x hfl (g := g) (h1 := h1) (h2 := h2) e7) cf_X1_requireWaiting gX1_declare_X1_requireWaiting ⟨Nat.le_of_ble_eq_true rfl, Nat.le_of_ble_eq_true rfl⟩ (q0 := 0) (As := [.int a0]) (rest := []) (wl := []) (wr := []) (c2 := 3) (s2 := 18) rfl rfl rfl rfl rfl rfl (Nat.le_of_ble_eq_true rfl) rfl rfl ⟨Nat.le_of_ble_eq_true rfl, Nat.le_of_ble_eq_true rfl⟩ dX1_declare_11 14 rfl (g_xQ hQ (g_xout C (by rw [e9]; rfl) rfl (Nat.le_of_ble_eq_true rfl) (Nat.le_of_ble_eq_true rfl)))
      · refine g_callV1 C (m_X1_requireWaiting_r hfl (g := g) (h1 := h1) (h2 := h2) e7) cf_X1_requireWaiting gX1_declare_X1_requireWaiting ⟨Nat.le_of_ble_eq_true rfl, Nat.le_of_ble_eq_true rfl⟩ (q0 := 0) (As := [.int a0]) (rest := []) (wl := []) (wr := []) (c2 := 3) (s2 := 18) rfl rfl rfl rfl rfl rfl (Nat.le_of_ble_eq_true rfl) rfl rfl ⟨Nat.le_of_ble_eq_true rfl, Nat.le_of_ble_eq_true rfl⟩ dX1_declare_11 14 rfl (ws2 := wC g h1 h2 ++ (wB cyI h1 b1 ++ wB cyI h2 b2)) rfl (st2 := []) rfl ?_
        refine g_aload_n C dX1_declare_14 15 rfl 0 rfl ?_
        refine g_get C iX1 0 rfl rfl 0 (by decide) kw0 rfl rfl dX1_declare_15 18 rfl ?_
        refine g_get C iX0 1 rfl rfl 5 (by decide) kw2 rfl rfl dX1_declare_18 21 rfl ?_
        refine g_iload_n C dX1_declare_21 22 rfl 1 rfl ?_
        obtain ⟨x11, e10, hf⟩ := bd1_s hf
        refine g_iald C 3 0 rfl rfl e10 dX1_declare_22 23 rfl ?_
        refine g_istore_n C dX1_declare_23 24 rfl (by decide) (lv' := [(3, .int x11), (0, .ref g), (1, .int a0), (2, .int a1)]) rfl ?_
        refine g_aload_n C dX1_declare_24 25 rfl 1 rfl ?_
        refine g_get C iX1 0 rfl rfl 0 (by decide) kw0 rfl rfl dX1_declare_25 28 rfl ?_
        refine g_get C iX0 1 rfl rfl 5 (by decide) kw2 rfl rfl dX1_declare_28 31 rfl ?_
        refine g_iload_n C dX1_declare_31 32 rfl 2 rfl ?_
        refine g_iload_n C dX1_declare_32 33 rfl 3 rfl ?_
        obtain ⟨b1_13, e12, hf⟩ := bd1_s hf
        refine g_iast C 3 0 rfl rfl (stA_in e12) (st_15 (cyI := cyI) (cyZ := cyZ) (cyJ := cyJ) e12) dX1_declare_33 34 rfl ?_
        refine g_iload_n C dX1_declare_34 35 rfl 0 rfl ?_
        refine g_Q hQ ?_
        exact g_iret C hr (by cases hf; rfl) (Nat.le_of_ble_eq_true rfl) (Nat.le_of_ble_eq_true rfl) dX1_declare_35
theorem m_X1_declare_r {l : Launch} (hfl : l.stackTraces = false) {D : va_G} {cyI cyZ cyJ : ClassId} {sc : SC} {g : Nat} {h1 : Nat → Nat} {b1 : S2} {h2 : Nat → Nat} {b2 : S2} {a0 : Int32} {a1 : Int32} {rx : Int32} {rb1 : S2} (hf : X1_declare b1 b2 a0 a1 = some (.inr (rx, rb1))) : Ct (ev_s, sc) l yX1_declare wsX1_declare rm_X1_declare D (ty3 cyI cyZ cyJ) [.ref g, .int a0, .int a1] (wC g h1 h2 ++ (wB cyI h1 b1 ++ wB cyI h2 b2)) (fun o => o = .inr (some (.int rx), wC g h1 h2 ++ (wB cyI h1 rb1 ++ wB cyI h2 b2))) 3 18 := m_X1_declare hfl hf
theorem m_X1_declare_x {l : Launch} (hfl : l.stackTraces = false) {D : va_G} {cyI cyZ cyJ : ClassId} {sc : SC} {g : Nat} {h1 : Nat → Nat} {b1 : S2} {h2 : Nat → Nat} {b2 : S2} {a0 : Int32} {a1 : Int32} {n : Nat} (hf : X1_declare b1 b2 a0 a1 = some (.inl n)) : Ct (ev_s, sc) l yX1_declare wsX1_declare rm_X1_declare D (ty3 cyI cyZ cyJ) [.ref g, .int a0, .int a1] (wC g h1 h2 ++ (wB cyI h1 b1 ++ wB cyI h2 b2)) (fun o => o = .inl n) 3 18 := m_X1_declare hfl hf
abbrev rm_X1_sing : Room := { frames := 7, cells := 3, slots := 18, locals := 103 }
theorem cf_X1_sing : CF yX1_sing wsX1_sing rm_X1_sing cX1_sing 4 (some .int) 2 3 18 RX1 := ⟨⟨_, rfl⟩, rfl, rfl, rfl, by decide, by decide, by decide +kernel⟩
set_option maxHeartbeats 4000000 in
set_option maxRecDepth 100000 in
theorem m_X1_sing {l : Launch} (hfl : l.stackTraces = false) {D : va_G} {cyI cyZ cyJ : ClassId} {sc : SC} {g : Nat} {h1 : Nat → Nat} {b1 : S2} {h2 : Nat → Nat} {b2 : S2} {a0 : Int32} {a1 : Int32} {r : Nat ⊕ (Int32 × S2)} (hf : X1_sing b1 b2 a0 a1 = some r) : Ct (ev_s, sc) l yX1_sing wsX1_sing rm_X1_sing D (ty3 cyI cyZ cyJ) [.ref g, .int a0, .int a1] (wC g h1 h2 ++ (wB cyI h1 b1 ++ wB cyI h2 b2)) (fun o => o = Sum.elim Sum.inl (fun q => Sum.inr (some (.int q.1), wC g h1 h2 ++ (wB cyI h1 q.2 ++ wB cyI h2 b2))) r) 3 18 := by
  refine ct_of (cc := cX1_sing) (nL := 4) (own := RX1) (ret := (some .int)) hfl (by decide) rfl rfl (Nat.le_of_ble_eq_true rfl) (fun p e s m args below meth c A C hr hnm => ?_)
  refine g_setQ (fun Q hQ => ?_)
  have kw0 := Cx.w C (.fieldLink RX1 10 "SleepBorder" "now" "LSleepBorder$Border;") (by decide +kernel)
  have iX1 : ∀ w ∈ u_ws RX1 TX1 2, w ∈ wsX1_sing := by decide +kernel
  have kw2 := Cx.w C (.fieldLink RX1 59 "SleepBorder$Border" "lullaby" "[I") (by decide +kernel)
  have iX0 : ∀ w ∈ u_ws RX0 TX0 15, w ∈ wsX1_sing := by decide +kernel
  unfold X1_sing at hf
  refine g_lve (lv' := [(0, .ref g), (1, .int a0), (2, .int a1)]) rfl ?_
  refine g_aload_n C dX1_sing_0 1 rfl 0 rfl ?_
  refine g_iload_n C dX1_sing_1 2 rfl 1 rfl ?_
  rcases bx0_s hf with ⟨ne2, e1, e3⟩ | ⟨e1, hf⟩
  · exact g_callVx C (m_X1_requireTraveller_x hfl (g := g) (h1 := h1) (h2 := h2) e1) cf_X1_requireTraveller gX1_sing_X1_requireTraveller ⟨Nat.le_of_ble_eq_true rfl, Nat.le_of_ble_eq_true rfl⟩ (q0 := 0) (As := [.int a0]) (rest := []) (wl := []) (wr := []) (c2 := 1) (s2 := 6) rfl rfl rfl rfl rfl rfl (Nat.le_of_ble_eq_true rfl) rfl rfl ⟨Nat.le_of_ble_eq_true rfl, Nat.le_of_ble_eq_true rfl⟩ dX1_sing_2 5 rfl (g_xQ hQ (g_xout C (by rw [e3]; rfl) rfl (Nat.le_of_ble_eq_true rfl) (Nat.le_of_ble_eq_true rfl)))
  · refine g_callV1 C (m_X1_requireTraveller_r hfl (g := g) (h1 := h1) (h2 := h2) e1) cf_X1_requireTraveller gX1_sing_X1_requireTraveller ⟨Nat.le_of_ble_eq_true rfl, Nat.le_of_ble_eq_true rfl⟩ (q0 := 0) (As := [.int a0]) (rest := []) (wl := []) (wr := []) (c2 := 1) (s2 := 6) rfl rfl rfl rfl rfl rfl (Nat.le_of_ble_eq_true rfl) rfl rfl ⟨Nat.le_of_ble_eq_true rfl, Nat.le_of_ble_eq_true rfl⟩ dX1_sing_2 5 rfl (ws2 := wC g h1 h2 ++ (wB cyI h1 b1 ++ wB cyI h2 b2)) rfl (st2 := []) rfl ?_
    refine g_iload_n C dX1_sing_5 6 rfl 2 rfl ?_
    rcases bx0_s hf with ⟨ne5, e4, e6⟩ | ⟨e4, hf⟩
    · exact g_callSx C (m_X1_requireMinutes_x hfl  e4) cf_X1_requireMinutes gX1_sing_X1_requireMinutes ⟨Nat.le_of_ble_eq_true rfl, Nat.le_of_ble_eq_true rfl⟩ (As := [.int a1]) (rest := []) (wl := []) (wr := wC g h1 h2 ++ (wB cyI h1 b1 ++ wB cyI h2 b2)) (c2 := 2) (s2 := 12) rfl rfl rfl (Nat.le_of_ble_eq_true rfl) rfl rfl ⟨Nat.le_of_ble_eq_true rfl, Nat.le_of_ble_eq_true rfl⟩ dX1_sing_6 9 rfl (g_xQ hQ (g_xout C (by rw [e6]; rfl) rfl (Nat.le_of_ble_eq_true rfl) (Nat.le_of_ble_eq_true rfl)))
    · refine g_callS1 C (m_X1_requireMinutes_r hfl  e4) cf_X1_requireMinutes gX1_sing_X1_requireMinutes ⟨Nat.le_of_ble_eq_true rfl, Nat.le_of_ble_eq_true rfl⟩ (As := [.int a1]) (rest := []) (wl := []) (wr := wC g h1 h2 ++ (wB cyI h1 b1 ++ wB cyI h2 b2)) (c2 := 2) (s2 := 12) rfl rfl rfl (Nat.le_of_ble_eq_true rfl) rfl rfl ⟨Nat.le_of_ble_eq_true rfl, Nat.le_of_ble_eq_true rfl⟩ dX1_sing_6 9 rfl (ws2 := wC g h1 h2 ++ (wB cyI h1 b1 ++ wB cyI h2 b2)) rfl (st2 := []) rfl ?_
      refine g_aload_n C dX1_sing_9 10 rfl 0 rfl ?_
      refine g_iload_n C dX1_sing_10 11 rfl 1 rfl ?_
      rcases bx0_s hf with ⟨ne8, e7, e9⟩ | ⟨e7, hf⟩
      · exact g_callVx C (m_X1_requireWaiting_x hfl (g := g) (h1 := h1) (h2 := h2) e7) cf_X1_requireWaiting gX1_sing_X1_requireWaiting ⟨Nat.le_of_ble_eq_true rfl, Nat.le_of_ble_eq_true rfl⟩ (q0 := 0) (As := [.int a0]) (rest := []) (wl := []) (wr := []) (c2 := 3) (s2 := 18) rfl rfl rfl rfl rfl rfl (Nat.le_of_ble_eq_true rfl) rfl rfl ⟨Nat.le_of_ble_eq_true rfl, Nat.le_of_ble_eq_true rfl⟩ dX1_sing_11 14 rfl (g_xQ hQ (g_xout C (by rw [e9]; rfl) rfl (Nat.le_of_ble_eq_true rfl) (Nat.le_of_ble_eq_true rfl)))
      · refine g_callV1 C (m_X1_requireWaiting_r hfl (g := g) (h1 := h1) (h2 := h2) e7) cf_X1_requireWaiting gX1_sing_X1_requireWaiting ⟨Nat.le_of_ble_eq_true rfl, Nat.le_of_ble_eq_true rfl⟩ (q0 := 0) (As := [.int a0]) (rest := []) (wl := []) (wr := []) (c2 := 3) (s2 := 18) rfl rfl rfl rfl rfl rfl (Nat.le_of_ble_eq_true rfl) rfl rfl ⟨Nat.le_of_ble_eq_true rfl, Nat.le_of_ble_eq_true rfl⟩ dX1_sing_11 14 rfl (ws2 := wC g h1 h2 ++ (wB cyI h1 b1 ++ wB cyI h2 b2)) rfl (st2 := []) rfl ?_
        refine g_aload_n C dX1_sing_14 15 rfl 0 rfl ?_
        refine g_get C iX1 0 rfl rfl 0 (by decide) kw0 rfl rfl dX1_sing_15 18 rfl ?_
        refine g_get C iX0 1 rfl rfl 7 (by decide) kw2 rfl rfl dX1_sing_18 21 rfl ?_
        refine g_iload_n C dX1_sing_21 22 rfl 1 rfl ?_
        obtain ⟨x11, e10, hf⟩ := bd1_s hf
        refine g_iald C 5 0 rfl rfl e10 dX1_sing_22 23 rfl ?_
        refine g_istore_n C dX1_sing_23 24 rfl (by decide) (lv' := [(3, .int x11), (0, .ref g), (1, .int a0), (2, .int a1)]) rfl ?_
        refine g_aload_n C dX1_sing_24 25 rfl 1 rfl ?_
        refine g_get C iX1 0 rfl rfl 0 (by decide) kw0 rfl rfl dX1_sing_25 28 rfl ?_
        refine g_get C iX0 1 rfl rfl 7 (by decide) kw2 rfl rfl dX1_sing_28 31 rfl ?_
        refine g_iload_n C dX1_sing_31 32 rfl 2 rfl ?_
        refine g_iload_n C dX1_sing_32 33 rfl 3 rfl ?_
        obtain ⟨b1_13, e12, hf⟩ := bd1_s hf
        refine g_iast C 5 0 rfl rfl (stA_in e12) (st_16 (cyI := cyI) (cyZ := cyZ) (cyJ := cyJ) e12) dX1_sing_33 34 rfl ?_
        refine g_iload_n C dX1_sing_34 35 rfl 0 rfl ?_
        refine g_Q hQ ?_
        exact g_iret C hr (by cases hf; rfl) (Nat.le_of_ble_eq_true rfl) (Nat.le_of_ble_eq_true rfl) dX1_sing_35
theorem m_X1_sing_r {l : Launch} (hfl : l.stackTraces = false) {D : va_G} {cyI cyZ cyJ : ClassId} {sc : SC} {g : Nat} {h1 : Nat → Nat} {b1 : S2} {h2 : Nat → Nat} {b2 : S2} {a0 : Int32} {a1 : Int32} {rx : Int32} {rb1 : S2} (hf : X1_sing b1 b2 a0 a1 = some (.inr (rx, rb1))) : Ct (ev_s, sc) l yX1_sing wsX1_sing rm_X1_sing D (ty3 cyI cyZ cyJ) [.ref g, .int a0, .int a1] (wC g h1 h2 ++ (wB cyI h1 b1 ++ wB cyI h2 b2)) (fun o => o = .inr (some (.int rx), wC g h1 h2 ++ (wB cyI h1 rb1 ++ wB cyI h2 b2))) 3 18 := m_X1_sing hfl hf
theorem m_X1_sing_x {l : Launch} (hfl : l.stackTraces = false) {D : va_G} {cyI cyZ cyJ : ClassId} {sc : SC} {g : Nat} {h1 : Nat → Nat} {b1 : S2} {h2 : Nat → Nat} {b2 : S2} {a0 : Int32} {a1 : Int32} {n : Nat} (hf : X1_sing b1 b2 a0 a1 = some (.inl n)) : Ct (ev_s, sc) l yX1_sing wsX1_sing rm_X1_sing D (ty3 cyI cyZ cyJ) [.ref g, .int a0, .int a1] (wC g h1 h2 ++ (wB cyI h1 b1 ++ wB cyI h2 b2)) (fun o => o = .inl n) 3 18 := m_X1_sing hfl hf
abbrev rm_X1_requireGuard : Room := { frames := 6, cells := 1, slots := 6, locals := 82 }
theorem cf_X1_requireGuard : CF yX1_requireGuard wsX1_requireGuard rm_X1_requireGuard cX1_requireGuard 2 none 1 1 6 RX1 := ⟨⟨_, rfl⟩, rfl, rfl, rfl, by decide, by decide, by decide +kernel⟩
set_option maxHeartbeats 4000000 in
set_option maxRecDepth 100000 in
theorem m_X1_requireGuard {l : Launch} (hfl : l.stackTraces = false) {D : va_G} {cyI cyZ cyJ : ClassId} {sc : SC} {g : Nat} {h1 : Nat → Nat} {b1 : S2} {h2 : Nat → Nat} {b2 : S2} {a0 : Int32} {r : Nat ⊕ (Unit)} (hf : X1_requireGuard b1 b2 a0 = some r) : Ct (ev_s, sc) l yX1_requireGuard wsX1_requireGuard rm_X1_requireGuard D (ty3 cyI cyZ cyJ) [.ref g, .int a0] (wC g h1 h2 ++ (wB cyI h1 b1 ++ wB cyI h2 b2)) (fun o => o = Sum.elim Sum.inl (fun q => Sum.inr (none, wC g h1 h2 ++ (wB cyI h1 b1 ++ wB cyI h2 b2))) r) 1 6 := by
  refine ct_of (cc := cX1_requireGuard) (nL := 2) (own := RX1) (ret := none) hfl (by decide) rfl rfl (Nat.le_of_ble_eq_true rfl) (fun p e s m args below meth c A C hr hnm => ?_)
  refine g_setQ (fun Q hQ => ?_)
  have kw0 := Cx.w C (.fieldLink RX1 10 "SleepBorder" "now" "LSleepBorder$Border;") (by decide +kernel)
  have iX1 : ∀ w ∈ u_ws RX1 TX1 2, w ∈ wsX1_requireGuard := by decide +kernel
  have kw2 := Cx.w C (.classLink RX1 208 (xn 3)) (by decide +kernel)
  have kw3 := Cx.w C (.initialized (xn 3)) (by decide +kernel)
  have ka212 : ∀ w ∈ (vx_atS RX1 212 (xn 3) nms).filter goodWord, w.before args s = true := fun w h => Cx.w C w ((by decide +kernel : ∀ w ∈ (vx_atS RX1 212 (xn 3) nms).filter goodWord, w ∈ wsX1_requireGuard) w h)
  unfold X1_requireGuard at hf
  refine g_lve (lv' := [(0, .ref g), (1, .int a0)]) rfl ?_
  refine g_aload_n C dX1_requireGuard_0 1 rfl 0 rfl ?_
  refine g_get C iX1 0 rfl rfl 0 (by decide) kw0 rfl rfl dX1_requireGuard_1 4 rfl ?_
  refine g_iload_n C dX1_requireGuard_4 5 rfl 1 rfl ?_
  obtain ⟨x1, e2, hf⟩ := bd1_s hf
  refine g_callV1 C (m_X0_isGuard hfl (h := h1) e2) cf_X0_isGuard gX1_requireGuard_X0_isGuard ⟨Nat.le_of_ble_eq_true rfl, Nat.le_of_ble_eq_true rfl⟩ (q0 := 0) (As := [.int a0]) (rest := []) (wl := wC g h1 h2) (wr := wB cyI h2 b2) (c2 := 0) (s2 := 0) rfl rfl rfl rfl rfl rfl (Nat.le_of_ble_eq_true rfl) rfl rfl ⟨Nat.le_of_ble_eq_true rfl, Nat.le_of_ble_eq_true rfl⟩ dX1_requireGuard_5 8 rfl (ws2 := wC g h1 h2 ++ (wB cyI h1 b1 ++ wB cyI h2 b2)) rfl (st2 := [.int x1]) rfl ?_
  refine g_if_ne C dX1_requireGuard_8 21 11 (by decide) rfl (fun c3 => ?_) (fun c3 => ?_)
  · have hf := ifn c3 hf
    refine g_Q hQ ?_
    exact g_vret C hr (by cases hf; rfl) (Nat.le_of_ble_eq_true rfl) (Nat.le_of_ble_eq_true rfl) dX1_requireGuard_21
  · have hf := ifp c3 hf
    refine g_Q hQ (g_throw C (n := 3) (ik := 208) (is := 216) (ic := 212) (text := "there is no such guard") (show (RX1, 216, "there is no such guard") ∈ ev_s by decide) kw2 kw3 ka212 (by decide +kernel) (by decide +kernel) (by decide +kernel) (by cases hf; rfl) rfl (Nat.le_of_ble_eq_true rfl) (Nat.le_of_ble_eq_true rfl) (Nat.le_of_ble_eq_true rfl) (Nat.le_of_ble_eq_true rfl) (Nat.le_of_ble_eq_true rfl) (Nat.le_of_ble_eq_true rfl) dX1_requireGuard_11 dX1_requireGuard_14 dX1_requireGuard_15 dX1_requireGuard_17 dX1_requireGuard_20)
theorem m_X1_requireGuard_r {l : Launch} (hfl : l.stackTraces = false) {D : va_G} {cyI cyZ cyJ : ClassId} {sc : SC} {g : Nat} {h1 : Nat → Nat} {b1 : S2} {h2 : Nat → Nat} {b2 : S2} {a0 : Int32} (hf : X1_requireGuard b1 b2 a0 = some (.inr ())) : Ct (ev_s, sc) l yX1_requireGuard wsX1_requireGuard rm_X1_requireGuard D (ty3 cyI cyZ cyJ) [.ref g, .int a0] (wC g h1 h2 ++ (wB cyI h1 b1 ++ wB cyI h2 b2)) (fun o => o = .inr (none, wC g h1 h2 ++ (wB cyI h1 b1 ++ wB cyI h2 b2))) 1 6 := m_X1_requireGuard hfl hf
theorem m_X1_requireGuard_x {l : Launch} (hfl : l.stackTraces = false) {D : va_G} {cyI cyZ cyJ : ClassId} {sc : SC} {g : Nat} {h1 : Nat → Nat} {b1 : S2} {h2 : Nat → Nat} {b2 : S2} {a0 : Int32} {n : Nat} (hf : X1_requireGuard b1 b2 a0 = some (.inl n)) : Ct (ev_s, sc) l yX1_requireGuard wsX1_requireGuard rm_X1_requireGuard D (ty3 cyI cyZ cyJ) [.ref g, .int a0] (wC g h1 h2 ++ (wB cyI h1 b1 ++ wB cyI h2 b2)) (fun o => o = .inl n) 1 6 := m_X1_requireGuard hfl hf
abbrev rm_X1_wake : Room := { frames := 7, cells := 1, slots := 6, locals := 103 }
theorem cf_X1_wake : CF yX1_wake wsX1_wake rm_X1_wake cX1_wake 3 (some .int) 1 1 6 RX1 := ⟨⟨_, rfl⟩, rfl, rfl, rfl, by decide, by decide, by decide +kernel⟩
set_option maxHeartbeats 4000000 in
set_option maxRecDepth 100000 in
theorem m_X1_wake {l : Launch} (hfl : l.stackTraces = false) {D : va_G} {cyI cyZ cyJ : ClassId} {sc : SC} {g : Nat} {h1 : Nat → Nat} {b1 : S2} {h2 : Nat → Nat} {b2 : S2} {a0 : Int32} {r : Nat ⊕ (Int32 × S2)} (hf : X1_wake b1 b2 a0 = some r) : Ct (ev_s, sc) l yX1_wake wsX1_wake rm_X1_wake D (ty3 cyI cyZ cyJ) [.ref g, .int a0] (wC g h1 h2 ++ (wB cyI h1 b1 ++ wB cyI h2 b2)) (fun o => o = Sum.elim Sum.inl (fun q => Sum.inr (some (.int q.1), wC g h1 h2 ++ (wB cyI h1 q.2 ++ wB cyI h2 b2))) r) 1 6 := by
  refine ct_of (cc := cX1_wake) (nL := 3) (own := RX1) (ret := (some .int)) hfl (by decide) rfl rfl (Nat.le_of_ble_eq_true rfl) (fun p e s m args below meth c A C hr hnm => ?_)
  refine g_setQ (fun Q hQ => ?_)
  have kw0 := Cx.w C (.fieldLink RX1 10 "SleepBorder" "now" "LSleepBorder$Border;") (by decide +kernel)
  have iX1 : ∀ w ∈ u_ws RX1 TX1 2, w ∈ wsX1_wake := by decide +kernel
  have kw2 := Cx.w C (.fieldLink RX1 65 "SleepBorder$Border" "alertness" "[I") (by decide +kernel)
  have iX0 : ∀ w ∈ u_ws RX0 TX0 15, w ∈ wsX1_wake := by decide +kernel
  unfold X1_wake at hf
  refine g_lve (lv' := [(0, .ref g), (1, .int a0)]) rfl ?_
  refine g_aload_n C dX1_wake_0 1 rfl 0 rfl ?_
  refine g_iload_n C dX1_wake_1 2 rfl 1 rfl ?_
  rcases bx0_s hf with ⟨ne2, e1, e3⟩ | ⟨e1, hf⟩
  · exact g_callVx C (m_X1_requireGuard_x hfl (g := g) (h1 := h1) (h2 := h2) e1) cf_X1_requireGuard gX1_wake_X1_requireGuard ⟨Nat.le_of_ble_eq_true rfl, Nat.le_of_ble_eq_true rfl⟩ (q0 := 0) (As := [.int a0]) (rest := []) (wl := []) (wr := []) (c2 := 1) (s2 := 6) rfl rfl rfl rfl rfl rfl (Nat.le_of_ble_eq_true rfl) rfl rfl ⟨Nat.le_of_ble_eq_true rfl, Nat.le_of_ble_eq_true rfl⟩ dX1_wake_2 5 rfl (g_xQ hQ (g_xout C (by rw [e3]; rfl) rfl (Nat.le_of_ble_eq_true rfl) (Nat.le_of_ble_eq_true rfl)))
  · refine g_callV1 C (m_X1_requireGuard_r hfl (g := g) (h1 := h1) (h2 := h2) e1) cf_X1_requireGuard gX1_wake_X1_requireGuard ⟨Nat.le_of_ble_eq_true rfl, Nat.le_of_ble_eq_true rfl⟩ (q0 := 0) (As := [.int a0]) (rest := []) (wl := []) (wr := []) (c2 := 1) (s2 := 6) rfl rfl rfl rfl rfl rfl (Nat.le_of_ble_eq_true rfl) rfl rfl ⟨Nat.le_of_ble_eq_true rfl, Nat.le_of_ble_eq_true rfl⟩ dX1_wake_2 5 rfl (ws2 := wC g h1 h2 ++ (wB cyI h1 b1 ++ wB cyI h2 b2)) rfl (st2 := []) rfl ?_
    refine g_aload_n C dX1_wake_5 6 rfl 0 rfl ?_
    refine g_get C iX1 0 rfl rfl 0 (by decide) kw0 rfl rfl dX1_wake_6 9 rfl ?_
    refine g_get C iX0 1 rfl rfl 12 (by decide) kw2 rfl rfl dX1_wake_9 12 rfl ?_
    refine g_iload_n C dX1_wake_12 13 rfl 1 rfl ?_
    obtain ⟨x5, e4, hf⟩ := bd1_s hf
    refine g_iald C 9 0 rfl rfl e4 dX1_wake_13 14 rfl ?_
    refine g_istore_n C dX1_wake_14 15 rfl (by decide) (lv' := [(2, .int x5), (0, .ref g), (1, .int a0)]) rfl ?_
    refine g_aload_n C dX1_wake_15 16 rfl 1 rfl ?_
    refine g_get C iX1 0 rfl rfl 0 (by decide) kw0 rfl rfl dX1_wake_16 19 rfl ?_
    refine g_get C iX0 1 rfl rfl 12 (by decide) kw2 rfl rfl dX1_wake_19 22 rfl ?_
    refine g_iload_n C dX1_wake_22 23 rfl 2 rfl ?_
    refine g_bipush C dX1_wake_23 25 rfl bp_9 ?_
    obtain ⟨b1_7, e6, hf⟩ := bd1_s hf
    refine g_iast C 9 0 rfl rfl (stA_in e6) (st_17 (cyI := cyI) (cyZ := cyZ) (cyJ := cyJ) e6) dX1_wake_25 26 rfl ?_
    refine g_iload_n C dX1_wake_26 27 rfl 0 rfl ?_
    refine g_Q hQ ?_
    exact g_iret C hr (by cases hf; rfl) (Nat.le_of_ble_eq_true rfl) (Nat.le_of_ble_eq_true rfl) dX1_wake_27
theorem m_X1_wake_r {l : Launch} (hfl : l.stackTraces = false) {D : va_G} {cyI cyZ cyJ : ClassId} {sc : SC} {g : Nat} {h1 : Nat → Nat} {b1 : S2} {h2 : Nat → Nat} {b2 : S2} {a0 : Int32} {rx : Int32} {rb1 : S2} (hf : X1_wake b1 b2 a0 = some (.inr (rx, rb1))) : Ct (ev_s, sc) l yX1_wake wsX1_wake rm_X1_wake D (ty3 cyI cyZ cyJ) [.ref g, .int a0] (wC g h1 h2 ++ (wB cyI h1 b1 ++ wB cyI h2 b2)) (fun o => o = .inr (some (.int rx), wC g h1 h2 ++ (wB cyI h1 rb1 ++ wB cyI h2 b2))) 1 6 := m_X1_wake hfl hf
theorem m_X1_wake_x {l : Launch} (hfl : l.stackTraces = false) {D : va_G} {cyI cyZ cyJ : ClassId} {sc : SC} {g : Nat} {h1 : Nat → Nat} {b1 : S2} {h2 : Nat → Nat} {b2 : S2} {a0 : Int32} {n : Nat} (hf : X1_wake b1 b2 a0 = some (.inl n)) : Ct (ev_s, sc) l yX1_wake wsX1_wake rm_X1_wake D (ty3 cyI cyZ cyJ) [.ref g, .int a0] (wC g h1 h2 ++ (wB cyI h1 b1 ++ wB cyI h2 b2)) (fun o => o = .inl n) 1 6 := m_X1_wake hfl hf
abbrev rm_X1_pass : Room := { frames := 7, cells := 1, slots := 6, locals := 102 }
theorem cf_X1_pass : CF yX1_pass wsX1_pass rm_X1_pass cX1_pass 4 (some .int) 1 1 6 RX1 := ⟨⟨_, rfl⟩, rfl, rfl, rfl, by decide, by decide, by decide +kernel⟩
set_option maxHeartbeats 4000000 in
set_option maxRecDepth 100000 in
theorem m_X1_pass {l : Launch} (hfl : l.stackTraces = false) {D : va_G} {cyI cyZ cyJ : ClassId} {sc : SC} {g : Nat} {h1 : Nat → Nat} {b1 : S2} {h2 : Nat → Nat} {b2 : S2} {a0 : Int32} {r : Nat ⊕ (Int32 × S2)} (hf : X1_pass b1 b2 a0 = some r) : Ct (ev_s, sc) l yX1_pass wsX1_pass rm_X1_pass D (ty3 cyI cyZ cyJ) [.ref g, .int a0] (wC g h1 h2 ++ (wB cyI h1 b1 ++ wB cyI h2 b2)) (fun o => o = Sum.elim Sum.inl (fun q => Sum.inr (some (.int q.1), wC g h1 h2 ++ (wB cyI h1 q.2 ++ wB cyI h2 b2))) r) 1 6 := by
  refine ct_of (cc := cX1_pass) (nL := 4) (own := RX1) (ret := (some .int)) hfl (by decide) rfl rfl (Nat.le_of_ble_eq_true rfl) (fun p e s m args below meth c A C hr hnm => ?_)
  refine g_setQ (fun Q hQ => ?_)
  have kw0 := Cx.w C (.fieldLink RX1 10 "SleepBorder" "now" "LSleepBorder$Border;") (by decide +kernel)
  have iX1 : ∀ w ∈ u_ws RX1 TX1 2, w ∈ wsX1_pass := by decide +kernel
  have L15 : ∀ (l1 : Int32) (l2 : Int32) (n : Nat) (l3 : Int32) (b1 : S2) (cells slots : Nat), cells + n * 0 + 0 ≤ 1 → slots + n * 0 + 0 ≤ 6 → X1_pass_L15 l1 l2 b2 n l3 b1 = some r → Gq p l e rm_X1_pass s m args below meth c D A 4 Q (wC g h1 h2 ++ (wB cyI h1 b1 ++ wB cyI h2 b2)) cells slots 15 [(0, .ref g), (1, .int l1), (2, .int l2), (3, .int l3)] [] := by
    intro l1 l2 n
    induction n with
    | zero => intro l3 b1 cells slots hc1 hc2 hf; simp [X1_pass_L15] at hf
    | succ n ih =>
      intro l3 b1 cells slots hc1 hc2 hf
      rw [X1_pass_L15] at hf
      refine g_iload_n C dX1_pass_15 16 rfl 3 rfl ?_
      refine g_iload_n C dX1_pass_16 17 rfl 1 rfl ?_
      refine g_icmp_ge C dX1_pass_17 33 20 (by decide) rfl (fun c6 => ?_) (fun c6 => ?_)
      · have hf := ifp c6 hf
        refine g_aload_n C dX1_pass_33 34 rfl 0 rfl ?_
        refine g_get C iX1 0 rfl rfl 0 (by decide) kw0 rfl rfl dX1_pass_34 37 rfl ?_
        refine g_iconst C dX1_pass_37 38 rfl ic_3 ?_
        obtain ⟨x7, e8, hf⟩ := bd1_s hf
        refine g_callV1 C (m_X0_countIn hfl (h := h1) e8) cf_X0_countIn gX1_pass_X0_countIn ⟨Nat.le_of_ble_eq_true rfl, Nat.le_of_ble_eq_true rfl⟩ (q0 := 0) (As := [.int 3]) (rest := []) (wl := wC g h1 h2) (wr := wB cyI h2 b2) (c2 := cells) (s2 := slots) rfl rfl rfl rfl rfl rfl (Nat.le_of_ble_eq_true rfl) rfl rfl ⟨(by show _ ≤ 1; omega), (by show _ ≤ 6; omega)⟩ dX1_pass_38 41 rfl (ws2 := wC g h1 h2 ++ (wB cyI h1 b1 ++ wB cyI h2 b2)) rfl (st2 := [.int x7]) rfl ?_
        refine g_iload_n C dX1_pass_41 42 rfl 2 rfl ?_
        refine g_isub C dX1_pass_42 43 rfl ?_
        refine g_Q hQ ?_
        exact g_iret C hr (by cases hf; rfl) (by omega) (by omega) dX1_pass_43
      · have hf := ifn c6 hf
        refine g_aload_n C dX1_pass_20 21 rfl 0 rfl ?_
        refine g_get C iX1 0 rfl rfl 0 (by decide) kw0 rfl rfl dX1_pass_21 24 rfl ?_
        obtain ⟨b1_9, e10, hf⟩ := bd1_s hf
        refine g_callV1 C (m_X0_goOneMinute hfl (h := h1) e10) cf_X0_goOneMinute gX1_pass_X0_goOneMinute ⟨Nat.le_of_ble_eq_true rfl, Nat.le_of_ble_eq_true rfl⟩ (q0 := 0) (As := []) (rest := []) (wl := wC g h1 h2) (wr := wB cyI h2 b2) (c2 := cells) (s2 := slots) rfl rfl rfl rfl rfl rfl (Nat.le_of_ble_eq_true rfl) rfl rfl ⟨(by show _ ≤ 1; omega), (by show _ ≤ 6; omega)⟩ dX1_pass_24 27 rfl (ws2 := wC g h1 h2 ++ (wB cyI h1 b1_9 ++ wB cyI h2 b2)) rfl (st2 := []) rfl ?_
        refine g_iinc C dX1_pass_27 30 rfl 3 rfl (ii_1 _) (by decide) (lv' := [(3, .int (l3 + 1)), (0, .ref g), (1, .int l1), (2, .int l2)]) rfl ?_
        refine g_goto C dX1_pass_30 15 (by decide) ?_
        refine g_lv [1, 2, 3, 0] (lv' := [(0, .ref g), (1, .int l1), (2, .int l2), (3, .int (l3 + 1))]) rfl ?_
        exact ih (l3 + 1) b1_9 cells slots (by omega) (by omega) hf
  unfold X1_pass at hf
  refine g_lve (lv' := [(0, .ref g), (1, .int a0)]) rfl ?_
  refine g_iload_n C dX1_pass_0 1 rfl 1 rfl ?_
  rcases bx0_s hf with ⟨ne2, e1, e3⟩ | ⟨e1, hf⟩
  · exact g_callSx C (m_X1_requireMinutes_x hfl  e1) cf_X1_requireMinutes gX1_pass_X1_requireMinutes ⟨Nat.le_of_ble_eq_true rfl, Nat.le_of_ble_eq_true rfl⟩ (As := [.int a0]) (rest := []) (wl := []) (wr := wC g h1 h2 ++ (wB cyI h1 b1 ++ wB cyI h2 b2)) (c2 := 1) (s2 := 6) rfl rfl rfl (Nat.le_of_ble_eq_true rfl) rfl rfl ⟨Nat.le_of_ble_eq_true rfl, Nat.le_of_ble_eq_true rfl⟩ dX1_pass_1 4 rfl (g_xQ hQ (g_xout C (by rw [e3]; rfl) rfl (Nat.le_of_ble_eq_true rfl) (Nat.le_of_ble_eq_true rfl)))
  · refine g_callS1 C (m_X1_requireMinutes_r hfl  e1) cf_X1_requireMinutes gX1_pass_X1_requireMinutes ⟨Nat.le_of_ble_eq_true rfl, Nat.le_of_ble_eq_true rfl⟩ (As := [.int a0]) (rest := []) (wl := []) (wr := wC g h1 h2 ++ (wB cyI h1 b1 ++ wB cyI h2 b2)) (c2 := 1) (s2 := 6) rfl rfl rfl (Nat.le_of_ble_eq_true rfl) rfl rfl ⟨Nat.le_of_ble_eq_true rfl, Nat.le_of_ble_eq_true rfl⟩ dX1_pass_1 4 rfl (ws2 := wC g h1 h2 ++ (wB cyI h1 b1 ++ wB cyI h2 b2)) rfl (st2 := []) rfl ?_
    refine g_aload_n C dX1_pass_4 5 rfl 0 rfl ?_
    refine g_get C iX1 0 rfl rfl 0 (by decide) kw0 rfl rfl dX1_pass_5 8 rfl ?_
    refine g_iconst C dX1_pass_8 9 rfl ic_3 ?_
    obtain ⟨x4, e5, hf⟩ := bd1_s hf
    refine g_callV1 C (m_X0_countIn hfl (h := h1) e5) cf_X0_countIn gX1_pass_X0_countIn ⟨Nat.le_of_ble_eq_true rfl, Nat.le_of_ble_eq_true rfl⟩ (q0 := 0) (As := [.int 3]) (rest := []) (wl := wC g h1 h2) (wr := wB cyI h2 b2) (c2 := 1) (s2 := 6) rfl rfl rfl rfl rfl rfl (Nat.le_of_ble_eq_true rfl) rfl rfl ⟨Nat.le_of_ble_eq_true rfl, Nat.le_of_ble_eq_true rfl⟩ dX1_pass_9 12 rfl (ws2 := wC g h1 h2 ++ (wB cyI h1 b1 ++ wB cyI h2 b2)) rfl (st2 := [.int x4]) rfl ?_
    refine g_istore_n C dX1_pass_12 13 rfl (by decide) (lv' := [(2, .int x4), (0, .ref g), (1, .int a0)]) rfl ?_
    refine g_iconst C dX1_pass_13 14 rfl ic_0 ?_
    refine g_istore_n C dX1_pass_14 15 rfl (by decide) (lv' := [(3, .int 0), (2, .int x4), (0, .ref g), (1, .int a0)]) rfl ?_
    refine g_lv [2, 3, 1, 0] (lv' := [(0, .ref g), (1, .int a0), (2, .int x4), (3, .int 0)]) rfl ?_
    exact L15 a0 x4 200 0 b1 1 6 (Nat.le_of_ble_eq_true rfl) (Nat.le_of_ble_eq_true rfl) hf
theorem m_X1_pass_r {l : Launch} (hfl : l.stackTraces = false) {D : va_G} {cyI cyZ cyJ : ClassId} {sc : SC} {g : Nat} {h1 : Nat → Nat} {b1 : S2} {h2 : Nat → Nat} {b2 : S2} {a0 : Int32} {rx : Int32} {rb1 : S2} (hf : X1_pass b1 b2 a0 = some (.inr (rx, rb1))) : Ct (ev_s, sc) l yX1_pass wsX1_pass rm_X1_pass D (ty3 cyI cyZ cyJ) [.ref g, .int a0] (wC g h1 h2 ++ (wB cyI h1 b1 ++ wB cyI h2 b2)) (fun o => o = .inr (some (.int rx), wC g h1 h2 ++ (wB cyI h1 rb1 ++ wB cyI h2 b2))) 1 6 := m_X1_pass hfl hf
theorem m_X1_pass_x {l : Launch} (hfl : l.stackTraces = false) {D : va_G} {cyI cyZ cyJ : ClassId} {sc : SC} {g : Nat} {h1 : Nat → Nat} {b1 : S2} {h2 : Nat → Nat} {b2 : S2} {a0 : Int32} {n : Nat} (hf : X1_pass b1 b2 a0 = some (.inl n)) : Ct (ev_s, sc) l yX1_pass wsX1_pass rm_X1_pass D (ty3 cyI cyZ cyJ) [.ref g, .int a0] (wC g h1 h2 ++ (wB cyI h1 b1 ++ wB cyI h2 b2)) (fun o => o = .inl n) 1 6 := m_X1_pass hfl hf
abbrev rm_X1_minute : Room := { frames := 0, cells := 0, slots := 0, locals := 0 }
theorem cf_X1_minute : CF yX1_minute wsX1_minute rm_X1_minute cX1_minute 1 (some .int) 0 0 0 RX1 := ⟨⟨_, rfl⟩, rfl, rfl, rfl, by decide, by decide, by decide +kernel⟩
set_option maxHeartbeats 4000000 in
set_option maxRecDepth 100000 in
theorem m_X1_minute {l : Launch} (hfl : l.stackTraces = false) {D : va_G} {cyI cyZ cyJ : ClassId} {sc : SC} {g : Nat} {h1 : Nat → Nat} {b1 : S2} {h2 : Nat → Nat} {b2 : S2} {rx : Int32} (hf : X1_minute b1 b2 = some rx) : Ct (ev_s, sc) l yX1_minute wsX1_minute rm_X1_minute D (ty3 cyI cyZ cyJ) [.ref g] (wC g h1 h2 ++ (wB cyI h1 b1 ++ wB cyI h2 b2)) (fun o => o = .inr (some (.int rx), wC g h1 h2 ++ (wB cyI h1 b1 ++ wB cyI h2 b2))) 0 0 := by
  refine ct_of (cc := cX1_minute) (nL := 1) (own := RX1) (ret := (some .int)) hfl (by decide) rfl rfl (Nat.le_of_ble_eq_true rfl) (fun p e s m args below meth c A C hr hnm => ?_)
  refine g_setQ (fun Q hQ => ?_)
  have kw0 := Cx.w C (.fieldLink RX1 10 "SleepBorder" "now" "LSleepBorder$Border;") (by decide +kernel)
  have iX1 : ∀ w ∈ u_ws RX1 TX1 2, w ∈ wsX1_minute := by decide +kernel
  have kw2 := Cx.w C (.fieldLink RX1 75 "SleepBorder$Border" "clock" "I") (by decide +kernel)
  have iX0 : ∀ w ∈ u_ws RX0 TX0 15, w ∈ wsX1_minute := by decide +kernel
  unfold X1_minute at hf
  refine g_lve (lv' := [(0, .ref g)]) rfl ?_
  refine g_aload_n C dX1_minute_0 1 rfl 0 rfl ?_
  refine g_get C iX1 0 rfl rfl 0 (by decide) kw0 rfl rfl dX1_minute_1 4 rfl ?_
  refine g_get C iX0 1 rfl rfl 0 (by decide) kw2 rfl rfl dX1_minute_4 7 rfl ?_
  refine g_Q hQ ?_
  exact g_iret C hr (by cases hf; rfl) (Nat.le_of_ble_eq_true rfl) (Nat.le_of_ble_eq_true rfl) dX1_minute_7
abbrev rm_X1_travellers : Room := { frames := 0, cells := 0, slots := 0, locals := 0 }
theorem cf_X1_travellers : CF yX1_travellers wsX1_travellers rm_X1_travellers cX1_travellers 1 (some .int) 0 0 0 RX1 := ⟨⟨_, rfl⟩, rfl, rfl, rfl, by decide, by decide, by decide +kernel⟩
set_option maxHeartbeats 4000000 in
set_option maxRecDepth 100000 in
theorem m_X1_travellers {l : Launch} (hfl : l.stackTraces = false) {D : va_G} {cyI cyZ cyJ : ClassId} {sc : SC} {g : Nat} {h1 : Nat → Nat} {b1 : S2} {h2 : Nat → Nat} {b2 : S2} {rx : Int32} (hf : X1_travellers b1 b2 = some rx) : Ct (ev_s, sc) l yX1_travellers wsX1_travellers rm_X1_travellers D (ty3 cyI cyZ cyJ) [.ref g] (wC g h1 h2 ++ (wB cyI h1 b1 ++ wB cyI h2 b2)) (fun o => o = .inr (some (.int rx), wC g h1 h2 ++ (wB cyI h1 b1 ++ wB cyI h2 b2))) 0 0 := by
  refine ct_of (cc := cX1_travellers) (nL := 1) (own := RX1) (ret := (some .int)) hfl (by decide) rfl rfl (Nat.le_of_ble_eq_true rfl) (fun p e s m args below meth c A C hr hnm => ?_)
  refine g_setQ (fun Q hQ => ?_)
  have kw0 := Cx.w C (.fieldLink RX1 10 "SleepBorder" "now" "LSleepBorder$Border;") (by decide +kernel)
  have iX1 : ∀ w ∈ u_ws RX1 TX1 2, w ∈ wsX1_travellers := by decide +kernel
  have kw2 := Cx.w C (.fieldLink RX1 40 "SleepBorder$Border" "travellerCount" "I") (by decide +kernel)
  have iX0 : ∀ w ∈ u_ws RX0 TX0 15, w ∈ wsX1_travellers := by decide +kernel
  unfold X1_travellers at hf
  refine g_lve (lv' := [(0, .ref g)]) rfl ?_
  refine g_aload_n C dX1_travellers_0 1 rfl 0 rfl ?_
  refine g_get C iX1 0 rfl rfl 0 (by decide) kw0 rfl rfl dX1_travellers_1 4 rfl ?_
  refine g_get C iX0 1 rfl rfl 3 (by decide) kw2 rfl rfl dX1_travellers_4 7 rfl ?_
  refine g_Q hQ ?_
  exact g_iret C hr (by cases hf; rfl) (Nat.le_of_ble_eq_true rfl) (Nat.le_of_ble_eq_true rfl) dX1_travellers_7
abbrev rm_X1_waiting : Room := { frames := 1, cells := 0, slots := 0, locals := 23 }
theorem cf_X1_waiting : CF yX1_waiting wsX1_waiting rm_X1_waiting cX1_waiting 1 (some .int) 0 0 0 RX1 := ⟨⟨_, rfl⟩, rfl, rfl, rfl, by decide, by decide, by decide +kernel⟩
set_option maxHeartbeats 4000000 in
set_option maxRecDepth 100000 in
theorem m_X1_waiting {l : Launch} (hfl : l.stackTraces = false) {D : va_G} {cyI cyZ cyJ : ClassId} {sc : SC} {g : Nat} {h1 : Nat → Nat} {b1 : S2} {h2 : Nat → Nat} {b2 : S2} {rx : Int32} (hf : X1_waiting b1 b2 = some rx) : Ct (ev_s, sc) l yX1_waiting wsX1_waiting rm_X1_waiting D (ty3 cyI cyZ cyJ) [.ref g] (wC g h1 h2 ++ (wB cyI h1 b1 ++ wB cyI h2 b2)) (fun o => o = .inr (some (.int rx), wC g h1 h2 ++ (wB cyI h1 b1 ++ wB cyI h2 b2))) 0 0 := by
  refine ct_of (cc := cX1_waiting) (nL := 1) (own := RX1) (ret := (some .int)) hfl (by decide) rfl rfl (Nat.le_of_ble_eq_true rfl) (fun p e s m args below meth c A C hr hnm => ?_)
  refine g_setQ (fun Q hQ => ?_)
  have kw0 := Cx.w C (.fieldLink RX1 10 "SleepBorder" "now" "LSleepBorder$Border;") (by decide +kernel)
  have iX1 : ∀ w ∈ u_ws RX1 TX1 2, w ∈ wsX1_waiting := by decide +kernel
  unfold X1_waiting at hf
  refine g_lve (lv' := [(0, .ref g)]) rfl ?_
  refine g_aload_n C dX1_waiting_0 1 rfl 0 rfl ?_
  refine g_get C iX1 0 rfl rfl 0 (by decide) kw0 rfl rfl dX1_waiting_1 4 rfl ?_
  refine g_iconst C dX1_waiting_4 5 rfl ic_0 ?_
  obtain ⟨x1, e2, hf⟩ := bd1_s hf
  refine g_callV1 C (m_X0_countIn hfl (h := h1) e2) cf_X0_countIn gX1_waiting_X0_countIn ⟨Nat.le_of_ble_eq_true rfl, Nat.le_of_ble_eq_true rfl⟩ (q0 := 0) (As := [.int 0]) (rest := []) (wl := wC g h1 h2) (wr := wB cyI h2 b2) (c2 := 0) (s2 := 0) rfl rfl rfl rfl rfl rfl (Nat.le_of_ble_eq_true rfl) rfl rfl ⟨Nat.le_of_ble_eq_true rfl, Nat.le_of_ble_eq_true rfl⟩ dX1_waiting_5 8 rfl (ws2 := wC g h1 h2 ++ (wB cyI h1 b1 ++ wB cyI h2 b2)) rfl (st2 := [.int x1]) rfl ?_
  refine g_Q hQ ?_
  exact g_iret C hr (by cases hf; rfl) (Nat.le_of_ble_eq_true rfl) (Nat.le_of_ble_eq_true rfl) dX1_waiting_8
abbrev rm_X1_asleep : Room := { frames := 1, cells := 0, slots := 0, locals := 23 }
theorem cf_X1_asleep : CF yX1_asleep wsX1_asleep rm_X1_asleep cX1_asleep 1 (some .int) 0 0 0 RX1 := ⟨⟨_, rfl⟩, rfl, rfl, rfl, by decide, by decide, by decide +kernel⟩
set_option maxHeartbeats 4000000 in
set_option maxRecDepth 100000 in
theorem m_X1_asleep {l : Launch} (hfl : l.stackTraces = false) {D : va_G} {cyI cyZ cyJ : ClassId} {sc : SC} {g : Nat} {h1 : Nat → Nat} {b1 : S2} {h2 : Nat → Nat} {b2 : S2} {rx : Int32} (hf : X1_asleep b1 b2 = some rx) : Ct (ev_s, sc) l yX1_asleep wsX1_asleep rm_X1_asleep D (ty3 cyI cyZ cyJ) [.ref g] (wC g h1 h2 ++ (wB cyI h1 b1 ++ wB cyI h2 b2)) (fun o => o = .inr (some (.int rx), wC g h1 h2 ++ (wB cyI h1 b1 ++ wB cyI h2 b2))) 0 0 := by
  refine ct_of (cc := cX1_asleep) (nL := 1) (own := RX1) (ret := (some .int)) hfl (by decide) rfl rfl (Nat.le_of_ble_eq_true rfl) (fun p e s m args below meth c A C hr hnm => ?_)
  refine g_setQ (fun Q hQ => ?_)
  have kw0 := Cx.w C (.fieldLink RX1 10 "SleepBorder" "now" "LSleepBorder$Border;") (by decide +kernel)
  have iX1 : ∀ w ∈ u_ws RX1 TX1 2, w ∈ wsX1_asleep := by decide +kernel
  unfold X1_asleep at hf
  refine g_lve (lv' := [(0, .ref g)]) rfl ?_
  refine g_aload_n C dX1_asleep_0 1 rfl 0 rfl ?_
  refine g_get C iX1 0 rfl rfl 0 (by decide) kw0 rfl rfl dX1_asleep_1 4 rfl ?_
  refine g_iconst C dX1_asleep_4 5 rfl ic_3 ?_
  obtain ⟨x1, e2, hf⟩ := bd1_s hf
  refine g_callV1 C (m_X0_countIn hfl (h := h1) e2) cf_X0_countIn gX1_asleep_X0_countIn ⟨Nat.le_of_ble_eq_true rfl, Nat.le_of_ble_eq_true rfl⟩ (q0 := 0) (As := [.int 3]) (rest := []) (wl := wC g h1 h2) (wr := wB cyI h2 b2) (c2 := 0) (s2 := 0) rfl rfl rfl rfl rfl rfl (Nat.le_of_ble_eq_true rfl) rfl rfl ⟨Nat.le_of_ble_eq_true rfl, Nat.le_of_ble_eq_true rfl⟩ dX1_asleep_5 8 rfl (ws2 := wC g h1 h2 ++ (wB cyI h1 b1 ++ wB cyI h2 b2)) rfl (st2 := [.int x1]) rfl ?_
  refine g_Q hQ ?_
  exact g_iret C hr (by cases hf; rfl) (Nat.le_of_ble_eq_true rfl) (Nat.le_of_ble_eq_true rfl) dX1_asleep_8
abbrev rm_X1_sentBack : Room := { frames := 1, cells := 0, slots := 0, locals := 23 }
theorem cf_X1_sentBack : CF yX1_sentBack wsX1_sentBack rm_X1_sentBack cX1_sentBack 1 (some .int) 0 0 0 RX1 := ⟨⟨_, rfl⟩, rfl, rfl, rfl, by decide, by decide, by decide +kernel⟩
set_option maxHeartbeats 4000000 in
set_option maxRecDepth 100000 in
theorem m_X1_sentBack {l : Launch} (hfl : l.stackTraces = false) {D : va_G} {cyI cyZ cyJ : ClassId} {sc : SC} {g : Nat} {h1 : Nat → Nat} {b1 : S2} {h2 : Nat → Nat} {b2 : S2} {rx : Int32} (hf : X1_sentBack b1 b2 = some rx) : Ct (ev_s, sc) l yX1_sentBack wsX1_sentBack rm_X1_sentBack D (ty3 cyI cyZ cyJ) [.ref g] (wC g h1 h2 ++ (wB cyI h1 b1 ++ wB cyI h2 b2)) (fun o => o = .inr (some (.int rx), wC g h1 h2 ++ (wB cyI h1 b1 ++ wB cyI h2 b2))) 0 0 := by
  refine ct_of (cc := cX1_sentBack) (nL := 1) (own := RX1) (ret := (some .int)) hfl (by decide) rfl rfl (Nat.le_of_ble_eq_true rfl) (fun p e s m args below meth c A C hr hnm => ?_)
  refine g_setQ (fun Q hQ => ?_)
  have kw0 := Cx.w C (.fieldLink RX1 10 "SleepBorder" "now" "LSleepBorder$Border;") (by decide +kernel)
  have iX1 : ∀ w ∈ u_ws RX1 TX1 2, w ∈ wsX1_sentBack := by decide +kernel
  unfold X1_sentBack at hf
  refine g_lve (lv' := [(0, .ref g)]) rfl ?_
  refine g_aload_n C dX1_sentBack_0 1 rfl 0 rfl ?_
  refine g_get C iX1 0 rfl rfl 0 (by decide) kw0 rfl rfl dX1_sentBack_1 4 rfl ?_
  refine g_iconst C dX1_sentBack_4 5 rfl ic_4 ?_
  obtain ⟨x1, e2, hf⟩ := bd1_s hf
  refine g_callV1 C (m_X0_countIn hfl (h := h1) e2) cf_X0_countIn gX1_sentBack_X0_countIn ⟨Nat.le_of_ble_eq_true rfl, Nat.le_of_ble_eq_true rfl⟩ (q0 := 0) (As := [.int 4]) (rest := []) (wl := wC g h1 h2) (wr := wB cyI h2 b2) (c2 := 0) (s2 := 0) rfl rfl rfl rfl rfl rfl (Nat.le_of_ble_eq_true rfl) rfl rfl ⟨Nat.le_of_ble_eq_true rfl, Nat.le_of_ble_eq_true rfl⟩ dX1_sentBack_5 8 rfl (ws2 := wC g h1 h2 ++ (wB cyI h1 b1 ++ wB cyI h2 b2)) rfl (st2 := [.int x1]) rfl ?_
  refine g_Q hQ ?_
  exact g_iret C hr (by cases hf; rfl) (Nat.le_of_ble_eq_true rfl) (Nat.le_of_ble_eq_true rfl) dX1_sentBack_8
abbrev rm_X1_expired : Room := { frames := 0, cells := 0, slots := 0, locals := 0 }
theorem cf_X1_expired : CF yX1_expired wsX1_expired rm_X1_expired cX1_expired 1 (some .int) 0 0 0 RX1 := ⟨⟨_, rfl⟩, rfl, rfl, rfl, by decide, by decide, by decide +kernel⟩
set_option maxHeartbeats 4000000 in
set_option maxRecDepth 100000 in
theorem m_X1_expired {l : Launch} (hfl : l.stackTraces = false) {D : va_G} {cyI cyZ cyJ : ClassId} {sc : SC} {g : Nat} {h1 : Nat → Nat} {b1 : S2} {h2 : Nat → Nat} {b2 : S2} {rx : Int32} (hf : X1_expired b1 b2 = some rx) : Ct (ev_s, sc) l yX1_expired wsX1_expired rm_X1_expired D (ty3 cyI cyZ cyJ) [.ref g] (wC g h1 h2 ++ (wB cyI h1 b1 ++ wB cyI h2 b2)) (fun o => o = .inr (some (.int rx), wC g h1 h2 ++ (wB cyI h1 b1 ++ wB cyI h2 b2))) 0 0 := by
  refine ct_of (cc := cX1_expired) (nL := 1) (own := RX1) (ret := (some .int)) hfl (by decide) rfl rfl (Nat.le_of_ble_eq_true rfl) (fun p e s m args below meth c A C hr hnm => ?_)
  refine g_setQ (fun Q hQ => ?_)
  have kw0 := Cx.w C (.fieldLink RX1 10 "SleepBorder" "now" "LSleepBorder$Border;") (by decide +kernel)
  have iX1 : ∀ w ∈ u_ws RX1 TX1 2, w ∈ wsX1_expired := by decide +kernel
  have kw2 := Cx.w C (.fieldLink RX1 78 "SleepBorder$Border" "expiredCount" "I") (by decide +kernel)
  have iX0 : ∀ w ∈ u_ws RX0 TX0 15, w ∈ wsX1_expired := by decide +kernel
  unfold X1_expired at hf
  refine g_lve (lv' := [(0, .ref g)]) rfl ?_
  refine g_aload_n C dX1_expired_0 1 rfl 0 rfl ?_
  refine g_get C iX1 0 rfl rfl 0 (by decide) kw0 rfl rfl dX1_expired_1 4 rfl ?_
  refine g_get C iX0 1 rfl rfl 1 (by decide) kw2 rfl rfl dX1_expired_4 7 rfl ?_
  refine g_Q hQ ?_
  exact g_iret C hr (by cases hf; rfl) (Nat.le_of_ble_eq_true rfl) (Nat.le_of_ble_eq_true rfl) dX1_expired_7
abbrev rm_X1_paid : Room := { frames := 0, cells := 0, slots := 0, locals := 0 }
theorem cf_X1_paid : CF yX1_paid wsX1_paid rm_X1_paid cX1_paid 1 (some .int) 0 0 0 RX1 := ⟨⟨_, rfl⟩, rfl, rfl, rfl, by decide, by decide, by decide +kernel⟩
set_option maxHeartbeats 4000000 in
set_option maxRecDepth 100000 in
theorem m_X1_paid {l : Launch} (hfl : l.stackTraces = false) {D : va_G} {cyI cyZ cyJ : ClassId} {sc : SC} {g : Nat} {h1 : Nat → Nat} {b1 : S2} {h2 : Nat → Nat} {b2 : S2} {rx : Int32} (hf : X1_paid b1 b2 = some rx) : Ct (ev_s, sc) l yX1_paid wsX1_paid rm_X1_paid D (ty3 cyI cyZ cyJ) [.ref g] (wC g h1 h2 ++ (wB cyI h1 b1 ++ wB cyI h2 b2)) (fun o => o = .inr (some (.int rx), wC g h1 h2 ++ (wB cyI h1 b1 ++ wB cyI h2 b2))) 0 0 := by
  refine ct_of (cc := cX1_paid) (nL := 1) (own := RX1) (ret := (some .int)) hfl (by decide) rfl rfl (Nat.le_of_ble_eq_true rfl) (fun p e s m args below meth c A C hr hnm => ?_)
  refine g_setQ (fun Q hQ => ?_)
  have kw0 := Cx.w C (.fieldLink RX1 10 "SleepBorder" "now" "LSleepBorder$Border;") (by decide +kernel)
  have iX1 : ∀ w ∈ u_ws RX1 TX1 2, w ∈ wsX1_paid := by decide +kernel
  have kw2 := Cx.w C (.fieldLink RX1 81 "SleepBorder$Border" "till" "I") (by decide +kernel)
  have iX0 : ∀ w ∈ u_ws RX0 TX0 15, w ∈ wsX1_paid := by decide +kernel
  unfold X1_paid at hf
  refine g_lve (lv' := [(0, .ref g)]) rfl ?_
  refine g_aload_n C dX1_paid_0 1 rfl 0 rfl ?_
  refine g_get C iX1 0 rfl rfl 0 (by decide) kw0 rfl rfl dX1_paid_1 4 rfl ?_
  refine g_get C iX0 1 rfl rfl 2 (by decide) kw2 rfl rfl dX1_paid_4 7 rfl ?_
  refine g_Q hQ ?_
  exact g_iret C hr (by cases hf; rfl) (Nat.le_of_ble_eq_true rfl) (Nat.le_of_ble_eq_true rfl) dX1_paid_7
abbrev rm_X1_noise : Room := { frames := 1, cells := 0, slots := 0, locals := 22 }
theorem cf_X1_noise : CF yX1_noise wsX1_noise rm_X1_noise cX1_noise 1 (some .int) 0 0 0 RX1 := ⟨⟨_, rfl⟩, rfl, rfl, rfl, by decide, by decide, by decide +kernel⟩
set_option maxHeartbeats 4000000 in
set_option maxRecDepth 100000 in
theorem m_X1_noise {l : Launch} (hfl : l.stackTraces = false) {D : va_G} {cyI cyZ cyJ : ClassId} {sc : SC} {g : Nat} {h1 : Nat → Nat} {b1 : S2} {h2 : Nat → Nat} {b2 : S2} {rx : Int32} (hf : X1_noise b1 b2 = some rx) : Ct (ev_s, sc) l yX1_noise wsX1_noise rm_X1_noise D (ty3 cyI cyZ cyJ) [.ref g] (wC g h1 h2 ++ (wB cyI h1 b1 ++ wB cyI h2 b2)) (fun o => o = .inr (some (.int rx), wC g h1 h2 ++ (wB cyI h1 b1 ++ wB cyI h2 b2))) 0 0 := by
  refine ct_of (cc := cX1_noise) (nL := 1) (own := RX1) (ret := (some .int)) hfl (by decide) rfl rfl (Nat.le_of_ble_eq_true rfl) (fun p e s m args below meth c A C hr hnm => ?_)
  refine g_setQ (fun Q hQ => ?_)
  have kw0 := Cx.w C (.fieldLink RX1 10 "SleepBorder" "now" "LSleepBorder$Border;") (by decide +kernel)
  have iX1 : ∀ w ∈ u_ws RX1 TX1 2, w ∈ wsX1_noise := by decide +kernel
  unfold X1_noise at hf
  refine g_lve (lv' := [(0, .ref g)]) rfl ?_
  refine g_aload_n C dX1_noise_0 1 rfl 0 rfl ?_
  refine g_get C iX1 0 rfl rfl 0 (by decide) kw0 rfl rfl dX1_noise_1 4 rfl ?_
  obtain ⟨x1, e2, hf⟩ := bd1_s hf
  refine g_callV1 C (m_X0_addedSnores hfl (h := h1) e2) cf_X0_addedSnores gX1_noise_X0_addedSnores ⟨Nat.le_of_ble_eq_true rfl, Nat.le_of_ble_eq_true rfl⟩ (q0 := 0) (As := []) (rest := []) (wl := wC g h1 h2) (wr := wB cyI h2 b2) (c2 := 0) (s2 := 0) rfl rfl rfl rfl rfl rfl (Nat.le_of_ble_eq_true rfl) rfl rfl ⟨Nat.le_of_ble_eq_true rfl, Nat.le_of_ble_eq_true rfl⟩ dX1_noise_4 7 rfl (ws2 := wC g h1 h2 ++ (wB cyI h1 b1 ++ wB cyI h2 b2)) rfl (st2 := [.int x1]) rfl ?_
  refine g_Q hQ ?_
  exact g_iret C hr (by cases hf; rfl) (Nat.le_of_ble_eq_true rfl) (Nat.le_of_ble_eq_true rfl) dX1_noise_7
abbrev rm_X1_nextInLine : Room := { frames := 1, cells := 0, slots := 0, locals := 21 }
theorem cf_X1_nextInLine : CF yX1_nextInLine wsX1_nextInLine rm_X1_nextInLine cX1_nextInLine 1 (some .int) 0 0 0 RX1 := ⟨⟨_, rfl⟩, rfl, rfl, rfl, by decide, by decide, by decide +kernel⟩
set_option maxHeartbeats 4000000 in
set_option maxRecDepth 100000 in
theorem m_X1_nextInLine {l : Launch} (hfl : l.stackTraces = false) {D : va_G} {cyI cyZ cyJ : ClassId} {sc : SC} {g : Nat} {h1 : Nat → Nat} {b1 : S2} {h2 : Nat → Nat} {b2 : S2} {rx : Int32} (hf : X1_nextInLine b1 b2 = some rx) : Ct (ev_s, sc) l yX1_nextInLine wsX1_nextInLine rm_X1_nextInLine D (ty3 cyI cyZ cyJ) [.ref g] (wC g h1 h2 ++ (wB cyI h1 b1 ++ wB cyI h2 b2)) (fun o => o = .inr (some (.int rx), wC g h1 h2 ++ (wB cyI h1 b1 ++ wB cyI h2 b2))) 0 0 := by
  refine ct_of (cc := cX1_nextInLine) (nL := 1) (own := RX1) (ret := (some .int)) hfl (by decide) rfl rfl (Nat.le_of_ble_eq_true rfl) (fun p e s m args below meth c A C hr hnm => ?_)
  refine g_setQ (fun Q hQ => ?_)
  have kw0 := Cx.w C (.fieldLink RX1 10 "SleepBorder" "now" "LSleepBorder$Border;") (by decide +kernel)
  have iX1 : ∀ w ∈ u_ws RX1 TX1 2, w ∈ wsX1_nextInLine := by decide +kernel
  unfold X1_nextInLine at hf
  refine g_lve (lv' := [(0, .ref g)]) rfl ?_
  refine g_aload_n C dX1_nextInLine_0 1 rfl 0 rfl ?_
  refine g_get C iX1 0 rfl rfl 0 (by decide) kw0 rfl rfl dX1_nextInLine_1 4 rfl ?_
  obtain ⟨x1, e2, hf⟩ := bd1_s hf
  refine g_callV1 C (m_X0_firstWaiting hfl (h := h1) e2) cf_X0_firstWaiting gX1_nextInLine_X0_firstWaiting ⟨Nat.le_of_ble_eq_true rfl, Nat.le_of_ble_eq_true rfl⟩ (q0 := 0) (As := []) (rest := []) (wl := wC g h1 h2) (wr := wB cyI h2 b2) (c2 := 0) (s2 := 0) rfl rfl rfl rfl rfl rfl (Nat.le_of_ble_eq_true rfl) rfl rfl ⟨Nat.le_of_ble_eq_true rfl, Nat.le_of_ble_eq_true rfl⟩ dX1_nextInLine_4 7 rfl (ws2 := wC g h1 h2 ++ (wB cyI h1 b1 ++ wB cyI h2 b2)) rfl (st2 := [.int x1]) rfl ?_
  refine g_Q hQ ?_
  exact g_iret C hr (by cases hf; rfl) (Nat.le_of_ble_eq_true rfl) (Nat.le_of_ble_eq_true rfl) dX1_nextInLine_7
abbrev rm_X1_stateOf : Room := { frames := 7, cells := 1, slots := 6, locals := 103 }
theorem cf_X1_stateOf : CF yX1_stateOf wsX1_stateOf rm_X1_stateOf cX1_stateOf 2 (some .int) 1 1 6 RX1 := ⟨⟨_, rfl⟩, rfl, rfl, rfl, by decide, by decide, by decide +kernel⟩
set_option maxHeartbeats 4000000 in
set_option maxRecDepth 100000 in
theorem m_X1_stateOf {l : Launch} (hfl : l.stackTraces = false) {D : va_G} {cyI cyZ cyJ : ClassId} {sc : SC} {g : Nat} {h1 : Nat → Nat} {b1 : S2} {h2 : Nat → Nat} {b2 : S2} {a0 : Int32} {r : Nat ⊕ (Int32)} (hf : X1_stateOf b1 b2 a0 = some r) : Ct (ev_s, sc) l yX1_stateOf wsX1_stateOf rm_X1_stateOf D (ty3 cyI cyZ cyJ) [.ref g, .int a0] (wC g h1 h2 ++ (wB cyI h1 b1 ++ wB cyI h2 b2)) (fun o => o = Sum.elim Sum.inl (fun q => Sum.inr (some (.int q), wC g h1 h2 ++ (wB cyI h1 b1 ++ wB cyI h2 b2))) r) 1 6 := by
  refine ct_of (cc := cX1_stateOf) (nL := 2) (own := RX1) (ret := (some .int)) hfl (by decide) rfl rfl (Nat.le_of_ble_eq_true rfl) (fun p e s m args below meth c A C hr hnm => ?_)
  refine g_setQ (fun Q hQ => ?_)
  have kw0 := Cx.w C (.fieldLink RX1 10 "SleepBorder" "now" "LSleepBorder$Border;") (by decide +kernel)
  have iX1 : ∀ w ∈ u_ws RX1 TX1 2, w ∈ wsX1_stateOf := by decide +kernel
  have kw2 := Cx.w C (.fieldLink RX1 91 "SleepBorder$Border" "state" "[I") (by decide +kernel)
  have iX0 : ∀ w ∈ u_ws RX0 TX0 15, w ∈ wsX1_stateOf := by decide +kernel
  unfold X1_stateOf at hf
  refine g_lve (lv' := [(0, .ref g), (1, .int a0)]) rfl ?_
  refine g_aload_n C dX1_stateOf_0 1 rfl 0 rfl ?_
  refine g_iload_n C dX1_stateOf_1 2 rfl 1 rfl ?_
  rcases bx0_s hf with ⟨ne2, e1, e3⟩ | ⟨e1, hf⟩
  · exact g_callVx C (m_X1_requireTraveller_x hfl (g := g) (h1 := h1) (h2 := h2) e1) cf_X1_requireTraveller gX1_stateOf_X1_requireTraveller ⟨Nat.le_of_ble_eq_true rfl, Nat.le_of_ble_eq_true rfl⟩ (q0 := 0) (As := [.int a0]) (rest := []) (wl := []) (wr := []) (c2 := 1) (s2 := 6) rfl rfl rfl rfl rfl rfl (Nat.le_of_ble_eq_true rfl) rfl rfl ⟨Nat.le_of_ble_eq_true rfl, Nat.le_of_ble_eq_true rfl⟩ dX1_stateOf_2 5 rfl (g_xQ hQ (g_xout C (by rw [e3]; rfl) rfl (Nat.le_of_ble_eq_true rfl) (Nat.le_of_ble_eq_true rfl)))
  · refine g_callV1 C (m_X1_requireTraveller_r hfl (g := g) (h1 := h1) (h2 := h2) e1) cf_X1_requireTraveller gX1_stateOf_X1_requireTraveller ⟨Nat.le_of_ble_eq_true rfl, Nat.le_of_ble_eq_true rfl⟩ (q0 := 0) (As := [.int a0]) (rest := []) (wl := []) (wr := []) (c2 := 1) (s2 := 6) rfl rfl rfl rfl rfl rfl (Nat.le_of_ble_eq_true rfl) rfl rfl ⟨Nat.le_of_ble_eq_true rfl, Nat.le_of_ble_eq_true rfl⟩ dX1_stateOf_2 5 rfl (ws2 := wC g h1 h2 ++ (wB cyI h1 b1 ++ wB cyI h2 b2)) rfl (st2 := []) rfl ?_
    refine g_aload_n C dX1_stateOf_5 6 rfl 0 rfl ?_
    refine g_get C iX1 0 rfl rfl 0 (by decide) kw0 rfl rfl dX1_stateOf_6 9 rfl ?_
    refine g_get C iX0 1 rfl rfl 8 (by decide) kw2 rfl rfl dX1_stateOf_9 12 rfl ?_
    refine g_iload_n C dX1_stateOf_12 13 rfl 1 rfl ?_
    obtain ⟨x5, e4, hf⟩ := bd1_s hf
    refine g_iald C 6 0 rfl rfl e4 dX1_stateOf_13 14 rfl ?_
    refine g_Q hQ ?_
    exact g_iret C hr (by cases hf; rfl) (Nat.le_of_ble_eq_true rfl) (Nat.le_of_ble_eq_true rfl) dX1_stateOf_14
theorem m_X1_stateOf_r {l : Launch} (hfl : l.stackTraces = false) {D : va_G} {cyI cyZ cyJ : ClassId} {sc : SC} {g : Nat} {h1 : Nat → Nat} {b1 : S2} {h2 : Nat → Nat} {b2 : S2} {a0 : Int32} {rx : Int32} (hf : X1_stateOf b1 b2 a0 = some (.inr rx)) : Ct (ev_s, sc) l yX1_stateOf wsX1_stateOf rm_X1_stateOf D (ty3 cyI cyZ cyJ) [.ref g, .int a0] (wC g h1 h2 ++ (wB cyI h1 b1 ++ wB cyI h2 b2)) (fun o => o = .inr (some (.int rx), wC g h1 h2 ++ (wB cyI h1 b1 ++ wB cyI h2 b2))) 1 6 := m_X1_stateOf hfl hf
theorem m_X1_stateOf_x {l : Launch} (hfl : l.stackTraces = false) {D : va_G} {cyI cyZ cyJ : ClassId} {sc : SC} {g : Nat} {h1 : Nat → Nat} {b1 : S2} {h2 : Nat → Nat} {b2 : S2} {a0 : Int32} {n : Nat} (hf : X1_stateOf b1 b2 a0 = some (.inl n)) : Ct (ev_s, sc) l yX1_stateOf wsX1_stateOf rm_X1_stateOf D (ty3 cyI cyZ cyJ) [.ref g, .int a0] (wC g h1 h2 ++ (wB cyI h1 b1 ++ wB cyI h2 b2)) (fun o => o = .inl n) 1 6 := m_X1_stateOf hfl hf
abbrev rm_X1_hiddenOf : Room := { frames := 7, cells := 1, slots := 6, locals := 103 }
theorem cf_X1_hiddenOf : CF yX1_hiddenOf wsX1_hiddenOf rm_X1_hiddenOf cX1_hiddenOf 2 (some .int) 1 1 6 RX1 := ⟨⟨_, rfl⟩, rfl, rfl, rfl, by decide, by decide, by decide +kernel⟩
set_option maxHeartbeats 4000000 in
set_option maxRecDepth 100000 in
theorem m_X1_hiddenOf {l : Launch} (hfl : l.stackTraces = false) {D : va_G} {cyI cyZ cyJ : ClassId} {sc : SC} {g : Nat} {h1 : Nat → Nat} {b1 : S2} {h2 : Nat → Nat} {b2 : S2} {a0 : Int32} {r : Nat ⊕ (Int32)} (hf : X1_hiddenOf b1 b2 a0 = some r) : Ct (ev_s, sc) l yX1_hiddenOf wsX1_hiddenOf rm_X1_hiddenOf D (ty3 cyI cyZ cyJ) [.ref g, .int a0] (wC g h1 h2 ++ (wB cyI h1 b1 ++ wB cyI h2 b2)) (fun o => o = Sum.elim Sum.inl (fun q => Sum.inr (some (.int q), wC g h1 h2 ++ (wB cyI h1 b1 ++ wB cyI h2 b2))) r) 1 6 := by
  refine ct_of (cc := cX1_hiddenOf) (nL := 2) (own := RX1) (ret := (some .int)) hfl (by decide) rfl rfl (Nat.le_of_ble_eq_true rfl) (fun p e s m args below meth c A C hr hnm => ?_)
  refine g_setQ (fun Q hQ => ?_)
  have kw0 := Cx.w C (.fieldLink RX1 10 "SleepBorder" "now" "LSleepBorder$Border;") (by decide +kernel)
  have iX1 : ∀ w ∈ u_ws RX1 TX1 2, w ∈ wsX1_hiddenOf := by decide +kernel
  unfold X1_hiddenOf at hf
  refine g_lve (lv' := [(0, .ref g), (1, .int a0)]) rfl ?_
  refine g_aload_n C dX1_hiddenOf_0 1 rfl 0 rfl ?_
  refine g_iload_n C dX1_hiddenOf_1 2 rfl 1 rfl ?_
  rcases bx0_s hf with ⟨ne2, e1, e3⟩ | ⟨e1, hf⟩
  · exact g_callVx C (m_X1_requireTraveller_x hfl (g := g) (h1 := h1) (h2 := h2) e1) cf_X1_requireTraveller gX1_hiddenOf_X1_requireTraveller ⟨Nat.le_of_ble_eq_true rfl, Nat.le_of_ble_eq_true rfl⟩ (q0 := 0) (As := [.int a0]) (rest := []) (wl := []) (wr := []) (c2 := 1) (s2 := 6) rfl rfl rfl rfl rfl rfl (Nat.le_of_ble_eq_true rfl) rfl rfl ⟨Nat.le_of_ble_eq_true rfl, Nat.le_of_ble_eq_true rfl⟩ dX1_hiddenOf_2 5 rfl (g_xQ hQ (g_xout C (by rw [e3]; rfl) rfl (Nat.le_of_ble_eq_true rfl) (Nat.le_of_ble_eq_true rfl)))
  · refine g_callV1 C (m_X1_requireTraveller_r hfl (g := g) (h1 := h1) (h2 := h2) e1) cf_X1_requireTraveller gX1_hiddenOf_X1_requireTraveller ⟨Nat.le_of_ble_eq_true rfl, Nat.le_of_ble_eq_true rfl⟩ (q0 := 0) (As := [.int a0]) (rest := []) (wl := []) (wr := []) (c2 := 1) (s2 := 6) rfl rfl rfl rfl rfl rfl (Nat.le_of_ble_eq_true rfl) rfl rfl ⟨Nat.le_of_ble_eq_true rfl, Nat.le_of_ble_eq_true rfl⟩ dX1_hiddenOf_2 5 rfl (ws2 := wC g h1 h2 ++ (wB cyI h1 b1 ++ wB cyI h2 b2)) rfl (st2 := []) rfl ?_
    refine g_aload_n C dX1_hiddenOf_5 6 rfl 0 rfl ?_
    refine g_get C iX1 0 rfl rfl 0 (by decide) kw0 rfl rfl dX1_hiddenOf_6 9 rfl ?_
    refine g_iload_n C dX1_hiddenOf_9 10 rfl 1 rfl ?_
    obtain ⟨x4, e5, hf⟩ := bd1_s hf
    refine g_callV1 C (m_X0_hiddenDreams hfl (h := h1) e5) cf_X0_hiddenDreams gX1_hiddenOf_X0_hiddenDreams ⟨Nat.le_of_ble_eq_true rfl, Nat.le_of_ble_eq_true rfl⟩ (q0 := 0) (As := [.int a0]) (rest := []) (wl := wC g h1 h2) (wr := wB cyI h2 b2) (c2 := 1) (s2 := 6) rfl rfl rfl rfl rfl rfl (Nat.le_of_ble_eq_true rfl) rfl rfl ⟨Nat.le_of_ble_eq_true rfl, Nat.le_of_ble_eq_true rfl⟩ dX1_hiddenOf_10 13 rfl (ws2 := wC g h1 h2 ++ (wB cyI h1 b1 ++ wB cyI h2 b2)) rfl (st2 := [.int x4]) rfl ?_
    refine g_Q hQ ?_
    exact g_iret C hr (by cases hf; rfl) (Nat.le_of_ble_eq_true rfl) (Nat.le_of_ble_eq_true rfl) dX1_hiddenOf_13
theorem m_X1_hiddenOf_r {l : Launch} (hfl : l.stackTraces = false) {D : va_G} {cyI cyZ cyJ : ClassId} {sc : SC} {g : Nat} {h1 : Nat → Nat} {b1 : S2} {h2 : Nat → Nat} {b2 : S2} {a0 : Int32} {rx : Int32} (hf : X1_hiddenOf b1 b2 a0 = some (.inr rx)) : Ct (ev_s, sc) l yX1_hiddenOf wsX1_hiddenOf rm_X1_hiddenOf D (ty3 cyI cyZ cyJ) [.ref g, .int a0] (wC g h1 h2 ++ (wB cyI h1 b1 ++ wB cyI h2 b2)) (fun o => o = .inr (some (.int rx), wC g h1 h2 ++ (wB cyI h1 b1 ++ wB cyI h2 b2))) 1 6 := m_X1_hiddenOf hfl hf
theorem m_X1_hiddenOf_x {l : Launch} (hfl : l.stackTraces = false) {D : va_G} {cyI cyZ cyJ : ClassId} {sc : SC} {g : Nat} {h1 : Nat → Nat} {b1 : S2} {h2 : Nat → Nat} {b2 : S2} {a0 : Int32} {n : Nat} (hf : X1_hiddenOf b1 b2 a0 = some (.inl n)) : Ct (ev_s, sc) l yX1_hiddenOf wsX1_hiddenOf rm_X1_hiddenOf D (ty3 cyI cyZ cyJ) [.ref g, .int a0] (wC g h1 h2 ++ (wB cyI h1 b1 ++ wB cyI h2 b2)) (fun o => o = .inl n) 1 6 := m_X1_hiddenOf hfl hf
abbrev rm_X1_lullabyOf : Room := { frames := 7, cells := 1, slots := 6, locals := 103 }
theorem cf_X1_lullabyOf : CF yX1_lullabyOf wsX1_lullabyOf rm_X1_lullabyOf cX1_lullabyOf 2 (some .int) 1 1 6 RX1 := ⟨⟨_, rfl⟩, rfl, rfl, rfl, by decide, by decide, by decide +kernel⟩
set_option maxHeartbeats 4000000 in
set_option maxRecDepth 100000 in
theorem m_X1_lullabyOf {l : Launch} (hfl : l.stackTraces = false) {D : va_G} {cyI cyZ cyJ : ClassId} {sc : SC} {g : Nat} {h1 : Nat → Nat} {b1 : S2} {h2 : Nat → Nat} {b2 : S2} {a0 : Int32} {r : Nat ⊕ (Int32)} (hf : X1_lullabyOf b1 b2 a0 = some r) : Ct (ev_s, sc) l yX1_lullabyOf wsX1_lullabyOf rm_X1_lullabyOf D (ty3 cyI cyZ cyJ) [.ref g, .int a0] (wC g h1 h2 ++ (wB cyI h1 b1 ++ wB cyI h2 b2)) (fun o => o = Sum.elim Sum.inl (fun q => Sum.inr (some (.int q), wC g h1 h2 ++ (wB cyI h1 b1 ++ wB cyI h2 b2))) r) 1 6 := by
  refine ct_of (cc := cX1_lullabyOf) (nL := 2) (own := RX1) (ret := (some .int)) hfl (by decide) rfl rfl (Nat.le_of_ble_eq_true rfl) (fun p e s m args below meth c A C hr hnm => ?_)
  refine g_setQ (fun Q hQ => ?_)
  have kw0 := Cx.w C (.fieldLink RX1 10 "SleepBorder" "now" "LSleepBorder$Border;") (by decide +kernel)
  have iX1 : ∀ w ∈ u_ws RX1 TX1 2, w ∈ wsX1_lullabyOf := by decide +kernel
  have kw2 := Cx.w C (.fieldLink RX1 59 "SleepBorder$Border" "lullaby" "[I") (by decide +kernel)
  have iX0 : ∀ w ∈ u_ws RX0 TX0 15, w ∈ wsX1_lullabyOf := by decide +kernel
  unfold X1_lullabyOf at hf
  refine g_lve (lv' := [(0, .ref g), (1, .int a0)]) rfl ?_
  refine g_aload_n C dX1_lullabyOf_0 1 rfl 0 rfl ?_
  refine g_iload_n C dX1_lullabyOf_1 2 rfl 1 rfl ?_
  rcases bx0_s hf with ⟨ne2, e1, e3⟩ | ⟨e1, hf⟩
  · exact g_callVx C (m_X1_requireTraveller_x hfl (g := g) (h1 := h1) (h2 := h2) e1) cf_X1_requireTraveller gX1_lullabyOf_X1_requireTraveller ⟨Nat.le_of_ble_eq_true rfl, Nat.le_of_ble_eq_true rfl⟩ (q0 := 0) (As := [.int a0]) (rest := []) (wl := []) (wr := []) (c2 := 1) (s2 := 6) rfl rfl rfl rfl rfl rfl (Nat.le_of_ble_eq_true rfl) rfl rfl ⟨Nat.le_of_ble_eq_true rfl, Nat.le_of_ble_eq_true rfl⟩ dX1_lullabyOf_2 5 rfl (g_xQ hQ (g_xout C (by rw [e3]; rfl) rfl (Nat.le_of_ble_eq_true rfl) (Nat.le_of_ble_eq_true rfl)))
  · refine g_callV1 C (m_X1_requireTraveller_r hfl (g := g) (h1 := h1) (h2 := h2) e1) cf_X1_requireTraveller gX1_lullabyOf_X1_requireTraveller ⟨Nat.le_of_ble_eq_true rfl, Nat.le_of_ble_eq_true rfl⟩ (q0 := 0) (As := [.int a0]) (rest := []) (wl := []) (wr := []) (c2 := 1) (s2 := 6) rfl rfl rfl rfl rfl rfl (Nat.le_of_ble_eq_true rfl) rfl rfl ⟨Nat.le_of_ble_eq_true rfl, Nat.le_of_ble_eq_true rfl⟩ dX1_lullabyOf_2 5 rfl (ws2 := wC g h1 h2 ++ (wB cyI h1 b1 ++ wB cyI h2 b2)) rfl (st2 := []) rfl ?_
    refine g_aload_n C dX1_lullabyOf_5 6 rfl 0 rfl ?_
    refine g_get C iX1 0 rfl rfl 0 (by decide) kw0 rfl rfl dX1_lullabyOf_6 9 rfl ?_
    refine g_get C iX0 1 rfl rfl 7 (by decide) kw2 rfl rfl dX1_lullabyOf_9 12 rfl ?_
    refine g_iload_n C dX1_lullabyOf_12 13 rfl 1 rfl ?_
    obtain ⟨x5, e4, hf⟩ := bd1_s hf
    refine g_iald C 5 0 rfl rfl e4 dX1_lullabyOf_13 14 rfl ?_
    refine g_Q hQ ?_
    exact g_iret C hr (by cases hf; rfl) (Nat.le_of_ble_eq_true rfl) (Nat.le_of_ble_eq_true rfl) dX1_lullabyOf_14
theorem m_X1_lullabyOf_r {l : Launch} (hfl : l.stackTraces = false) {D : va_G} {cyI cyZ cyJ : ClassId} {sc : SC} {g : Nat} {h1 : Nat → Nat} {b1 : S2} {h2 : Nat → Nat} {b2 : S2} {a0 : Int32} {rx : Int32} (hf : X1_lullabyOf b1 b2 a0 = some (.inr rx)) : Ct (ev_s, sc) l yX1_lullabyOf wsX1_lullabyOf rm_X1_lullabyOf D (ty3 cyI cyZ cyJ) [.ref g, .int a0] (wC g h1 h2 ++ (wB cyI h1 b1 ++ wB cyI h2 b2)) (fun o => o = .inr (some (.int rx), wC g h1 h2 ++ (wB cyI h1 b1 ++ wB cyI h2 b2))) 1 6 := m_X1_lullabyOf hfl hf
theorem m_X1_lullabyOf_x {l : Launch} (hfl : l.stackTraces = false) {D : va_G} {cyI cyZ cyJ : ClassId} {sc : SC} {g : Nat} {h1 : Nat → Nat} {b1 : S2} {h2 : Nat → Nat} {b2 : S2} {a0 : Int32} {n : Nat} (hf : X1_lullabyOf b1 b2 a0 = some (.inl n)) : Ct (ev_s, sc) l yX1_lullabyOf wsX1_lullabyOf rm_X1_lullabyOf D (ty3 cyI cyZ cyJ) [.ref g, .int a0] (wC g h1 h2 ++ (wB cyI h1 b1 ++ wB cyI h2 b2)) (fun o => o = .inl n) 1 6 := m_X1_lullabyOf hfl hf
abbrev rm_X1_placeInLine : Room := { frames := 7, cells := 1, slots := 6, locals := 103 }
theorem cf_X1_placeInLine : CF yX1_placeInLine wsX1_placeInLine rm_X1_placeInLine cX1_placeInLine 2 (some .int) 1 1 6 RX1 := ⟨⟨_, rfl⟩, rfl, rfl, rfl, by decide, by decide, by decide +kernel⟩
set_option maxHeartbeats 4000000 in
set_option maxRecDepth 100000 in
theorem m_X1_placeInLine {l : Launch} (hfl : l.stackTraces = false) {D : va_G} {cyI cyZ cyJ : ClassId} {sc : SC} {g : Nat} {h1 : Nat → Nat} {b1 : S2} {h2 : Nat → Nat} {b2 : S2} {a0 : Int32} {r : Nat ⊕ (Int32)} (hf : X1_placeInLine b1 b2 a0 = some r) : Ct (ev_s, sc) l yX1_placeInLine wsX1_placeInLine rm_X1_placeInLine D (ty3 cyI cyZ cyJ) [.ref g, .int a0] (wC g h1 h2 ++ (wB cyI h1 b1 ++ wB cyI h2 b2)) (fun o => o = Sum.elim Sum.inl (fun q => Sum.inr (some (.int q), wC g h1 h2 ++ (wB cyI h1 b1 ++ wB cyI h2 b2))) r) 1 6 := by
  refine ct_of (cc := cX1_placeInLine) (nL := 2) (own := RX1) (ret := (some .int)) hfl (by decide) rfl rfl (Nat.le_of_ble_eq_true rfl) (fun p e s m args below meth c A C hr hnm => ?_)
  refine g_setQ (fun Q hQ => ?_)
  have kw0 := Cx.w C (.fieldLink RX1 10 "SleepBorder" "now" "LSleepBorder$Border;") (by decide +kernel)
  have iX1 : ∀ w ∈ u_ws RX1 TX1 2, w ∈ wsX1_placeInLine := by decide +kernel
  have kw2 := Cx.w C (.fieldLink RX1 91 "SleepBorder$Border" "state" "[I") (by decide +kernel)
  have iX0 : ∀ w ∈ u_ws RX0 TX0 15, w ∈ wsX1_placeInLine := by decide +kernel
  unfold X1_placeInLine at hf
  refine g_lve (lv' := [(0, .ref g), (1, .int a0)]) rfl ?_
  refine g_aload_n C dX1_placeInLine_0 1 rfl 0 rfl ?_
  refine g_iload_n C dX1_placeInLine_1 2 rfl 1 rfl ?_
  rcases bx0_s hf with ⟨ne2, e1, e3⟩ | ⟨e1, hf⟩
  · exact g_callVx C (m_X1_requireTraveller_x hfl (g := g) (h1 := h1) (h2 := h2) e1) cf_X1_requireTraveller gX1_placeInLine_X1_requireTraveller ⟨Nat.le_of_ble_eq_true rfl, Nat.le_of_ble_eq_true rfl⟩ (q0 := 0) (As := [.int a0]) (rest := []) (wl := []) (wr := []) (c2 := 1) (s2 := 6) rfl rfl rfl rfl rfl rfl (Nat.le_of_ble_eq_true rfl) rfl rfl ⟨Nat.le_of_ble_eq_true rfl, Nat.le_of_ble_eq_true rfl⟩ dX1_placeInLine_2 5 rfl (g_xQ hQ (g_xout C (by rw [e3]; rfl) rfl (Nat.le_of_ble_eq_true rfl) (Nat.le_of_ble_eq_true rfl)))
  · refine g_callV1 C (m_X1_requireTraveller_r hfl (g := g) (h1 := h1) (h2 := h2) e1) cf_X1_requireTraveller gX1_placeInLine_X1_requireTraveller ⟨Nat.le_of_ble_eq_true rfl, Nat.le_of_ble_eq_true rfl⟩ (q0 := 0) (As := [.int a0]) (rest := []) (wl := []) (wr := []) (c2 := 1) (s2 := 6) rfl rfl rfl rfl rfl rfl (Nat.le_of_ble_eq_true rfl) rfl rfl ⟨Nat.le_of_ble_eq_true rfl, Nat.le_of_ble_eq_true rfl⟩ dX1_placeInLine_2 5 rfl (ws2 := wC g h1 h2 ++ (wB cyI h1 b1 ++ wB cyI h2 b2)) rfl (st2 := []) rfl ?_
    refine g_aload_n C dX1_placeInLine_5 6 rfl 0 rfl ?_
    refine g_get C iX1 0 rfl rfl 0 (by decide) kw0 rfl rfl dX1_placeInLine_6 9 rfl ?_
    refine g_get C iX0 1 rfl rfl 8 (by decide) kw2 rfl rfl dX1_placeInLine_9 12 rfl ?_
    refine g_iload_n C dX1_placeInLine_12 13 rfl 1 rfl ?_
    obtain ⟨x5, e4, hf⟩ := bd1_s hf
    refine g_iald C 6 0 rfl rfl e4 dX1_placeInLine_13 14 rfl ?_
    refine g_if_eq C dX1_placeInLine_14 19 17 (by decide) rfl (fun c6 => ?_) (fun c6 => ?_)
    · have hf := ifp c6 hf
      refine g_aload_n C dX1_placeInLine_19 20 rfl 0 rfl ?_
      refine g_get C iX1 0 rfl rfl 0 (by decide) kw0 rfl rfl dX1_placeInLine_20 23 rfl ?_
      refine g_iload_n C dX1_placeInLine_23 24 rfl 1 rfl ?_
      obtain ⟨x7, e8, hf⟩ := bd1_s hf
      refine g_callV1 C (m_X0_waitingAhead hfl (h := h1) e8) cf_X0_waitingAhead gX1_placeInLine_X0_waitingAhead ⟨Nat.le_of_ble_eq_true rfl, Nat.le_of_ble_eq_true rfl⟩ (q0 := 0) (As := [.int a0]) (rest := []) (wl := wC g h1 h2) (wr := wB cyI h2 b2) (c2 := 1) (s2 := 6) rfl rfl rfl rfl rfl rfl (Nat.le_of_ble_eq_true rfl) rfl rfl ⟨Nat.le_of_ble_eq_true rfl, Nat.le_of_ble_eq_true rfl⟩ dX1_placeInLine_24 27 rfl (ws2 := wC g h1 h2 ++ (wB cyI h1 b1 ++ wB cyI h2 b2)) rfl (st2 := [.int x7]) rfl ?_
      refine g_Q hQ ?_
      exact g_iret C hr (by cases hf; rfl) (Nat.le_of_ble_eq_true rfl) (Nat.le_of_ble_eq_true rfl) dX1_placeInLine_27
    · have hf := ifn c6 hf
      refine g_iconst C dX1_placeInLine_17 18 rfl ic_m1 ?_
      refine g_Q hQ ?_
      exact g_iret C hr (by cases hf; rfl) (Nat.le_of_ble_eq_true rfl) (Nat.le_of_ble_eq_true rfl) dX1_placeInLine_18
theorem m_X1_placeInLine_r {l : Launch} (hfl : l.stackTraces = false) {D : va_G} {cyI cyZ cyJ : ClassId} {sc : SC} {g : Nat} {h1 : Nat → Nat} {b1 : S2} {h2 : Nat → Nat} {b2 : S2} {a0 : Int32} {rx : Int32} (hf : X1_placeInLine b1 b2 a0 = some (.inr rx)) : Ct (ev_s, sc) l yX1_placeInLine wsX1_placeInLine rm_X1_placeInLine D (ty3 cyI cyZ cyJ) [.ref g, .int a0] (wC g h1 h2 ++ (wB cyI h1 b1 ++ wB cyI h2 b2)) (fun o => o = .inr (some (.int rx), wC g h1 h2 ++ (wB cyI h1 b1 ++ wB cyI h2 b2))) 1 6 := m_X1_placeInLine hfl hf
theorem m_X1_placeInLine_x {l : Launch} (hfl : l.stackTraces = false) {D : va_G} {cyI cyZ cyJ : ClassId} {sc : SC} {g : Nat} {h1 : Nat → Nat} {b1 : S2} {h2 : Nat → Nat} {b2 : S2} {a0 : Int32} {n : Nat} (hf : X1_placeInLine b1 b2 a0 = some (.inl n)) : Ct (ev_s, sc) l yX1_placeInLine wsX1_placeInLine rm_X1_placeInLine D (ty3 cyI cyZ cyJ) [.ref g, .int a0] (wC g h1 h2 ++ (wB cyI h1 b1 ++ wB cyI h2 b2)) (fun o => o = .inl n) 1 6 := m_X1_placeInLine hfl hf
abbrev rm_X1_searchTime : Room := { frames := 7, cells := 1, slots := 6, locals := 103 }
theorem cf_X1_searchTime : CF yX1_searchTime wsX1_searchTime rm_X1_searchTime cX1_searchTime 2 (some .int) 1 1 6 RX1 := ⟨⟨_, rfl⟩, rfl, rfl, rfl, by decide, by decide, by decide +kernel⟩
set_option maxHeartbeats 4000000 in
set_option maxRecDepth 100000 in
theorem m_X1_searchTime {l : Launch} (hfl : l.stackTraces = false) {D : va_G} {cyI cyZ cyJ : ClassId} {sc : SC} {g : Nat} {h1 : Nat → Nat} {b1 : S2} {h2 : Nat → Nat} {b2 : S2} {a0 : Int32} {r : Nat ⊕ (Int32)} (hf : X1_searchTime b1 b2 a0 = some r) : Ct (ev_s, sc) l yX1_searchTime wsX1_searchTime rm_X1_searchTime D (ty3 cyI cyZ cyJ) [.ref g, .int a0] (wC g h1 h2 ++ (wB cyI h1 b1 ++ wB cyI h2 b2)) (fun o => o = Sum.elim Sum.inl (fun q => Sum.inr (some (.int q), wC g h1 h2 ++ (wB cyI h1 b1 ++ wB cyI h2 b2))) r) 1 6 := by
  refine ct_of (cc := cX1_searchTime) (nL := 2) (own := RX1) (ret := (some .int)) hfl (by decide) rfl rfl (Nat.le_of_ble_eq_true rfl) (fun p e s m args below meth c A C hr hnm => ?_)
  refine g_setQ (fun Q hQ => ?_)
  have kw0 := Cx.w C (.fieldLink RX1 10 "SleepBorder" "now" "LSleepBorder$Border;") (by decide +kernel)
  have iX1 : ∀ w ∈ u_ws RX1 TX1 2, w ∈ wsX1_searchTime := by decide +kernel
  unfold X1_searchTime at hf
  refine g_lve (lv' := [(0, .ref g), (1, .int a0)]) rfl ?_
  refine g_aload_n C dX1_searchTime_0 1 rfl 0 rfl ?_
  refine g_iload_n C dX1_searchTime_1 2 rfl 1 rfl ?_
  rcases bx0_s hf with ⟨ne2, e1, e3⟩ | ⟨e1, hf⟩
  · exact g_callVx C (m_X1_requireTraveller_x hfl (g := g) (h1 := h1) (h2 := h2) e1) cf_X1_requireTraveller gX1_searchTime_X1_requireTraveller ⟨Nat.le_of_ble_eq_true rfl, Nat.le_of_ble_eq_true rfl⟩ (q0 := 0) (As := [.int a0]) (rest := []) (wl := []) (wr := []) (c2 := 1) (s2 := 6) rfl rfl rfl rfl rfl rfl (Nat.le_of_ble_eq_true rfl) rfl rfl ⟨Nat.le_of_ble_eq_true rfl, Nat.le_of_ble_eq_true rfl⟩ dX1_searchTime_2 5 rfl (g_xQ hQ (g_xout C (by rw [e3]; rfl) rfl (Nat.le_of_ble_eq_true rfl) (Nat.le_of_ble_eq_true rfl)))
  · refine g_callV1 C (m_X1_requireTraveller_r hfl (g := g) (h1 := h1) (h2 := h2) e1) cf_X1_requireTraveller gX1_searchTime_X1_requireTraveller ⟨Nat.le_of_ble_eq_true rfl, Nat.le_of_ble_eq_true rfl⟩ (q0 := 0) (As := [.int a0]) (rest := []) (wl := []) (wr := []) (c2 := 1) (s2 := 6) rfl rfl rfl rfl rfl rfl (Nat.le_of_ble_eq_true rfl) rfl rfl ⟨Nat.le_of_ble_eq_true rfl, Nat.le_of_ble_eq_true rfl⟩ dX1_searchTime_2 5 rfl (ws2 := wC g h1 h2 ++ (wB cyI h1 b1 ++ wB cyI h2 b2)) rfl (st2 := []) rfl ?_
    refine g_aload_n C dX1_searchTime_5 6 rfl 0 rfl ?_
    refine g_get C iX1 0 rfl rfl 0 (by decide) kw0 rfl rfl dX1_searchTime_6 9 rfl ?_
    refine g_iload_n C dX1_searchTime_9 10 rfl 1 rfl ?_
    obtain ⟨x4, e5, hf⟩ := bd1_s hf
    refine g_callV1 C (m_X0_searchMinutes hfl (h := h1) e5) cf_X0_searchMinutes gX1_searchTime_X0_searchMinutes ⟨Nat.le_of_ble_eq_true rfl, Nat.le_of_ble_eq_true rfl⟩ (q0 := 0) (As := [.int a0]) (rest := []) (wl := wC g h1 h2) (wr := wB cyI h2 b2) (c2 := 1) (s2 := 6) rfl rfl rfl rfl rfl rfl (Nat.le_of_ble_eq_true rfl) rfl rfl ⟨Nat.le_of_ble_eq_true rfl, Nat.le_of_ble_eq_true rfl⟩ dX1_searchTime_10 13 rfl (ws2 := wC g h1 h2 ++ (wB cyI h1 b1 ++ wB cyI h2 b2)) rfl (st2 := [.int x4]) rfl ?_
    refine g_Q hQ ?_
    exact g_iret C hr (by cases hf; rfl) (Nat.le_of_ble_eq_true rfl) (Nat.le_of_ble_eq_true rfl) dX1_searchTime_13
theorem m_X1_searchTime_r {l : Launch} (hfl : l.stackTraces = false) {D : va_G} {cyI cyZ cyJ : ClassId} {sc : SC} {g : Nat} {h1 : Nat → Nat} {b1 : S2} {h2 : Nat → Nat} {b2 : S2} {a0 : Int32} {rx : Int32} (hf : X1_searchTime b1 b2 a0 = some (.inr rx)) : Ct (ev_s, sc) l yX1_searchTime wsX1_searchTime rm_X1_searchTime D (ty3 cyI cyZ cyJ) [.ref g, .int a0] (wC g h1 h2 ++ (wB cyI h1 b1 ++ wB cyI h2 b2)) (fun o => o = .inr (some (.int rx), wC g h1 h2 ++ (wB cyI h1 b1 ++ wB cyI h2 b2))) 1 6 := m_X1_searchTime hfl hf
theorem m_X1_searchTime_x {l : Launch} (hfl : l.stackTraces = false) {D : va_G} {cyI cyZ cyJ : ClassId} {sc : SC} {g : Nat} {h1 : Nat → Nat} {b1 : S2} {h2 : Nat → Nat} {b2 : S2} {a0 : Int32} {n : Nat} (hf : X1_searchTime b1 b2 a0 = some (.inl n)) : Ct (ev_s, sc) l yX1_searchTime wsX1_searchTime rm_X1_searchTime D (ty3 cyI cyZ cyJ) [.ref g, .int a0] (wC g h1 h2 ++ (wB cyI h1 b1 ++ wB cyI h2 b2)) (fun o => o = .inl n) 1 6 := m_X1_searchTime hfl hf
abbrev rm_X1_guards : Room := { frames := 0, cells := 0, slots := 0, locals := 0 }
theorem cf_X1_guards : CF yX1_guards wsX1_guards rm_X1_guards cX1_guards 1 (some .int) 0 0 0 RX1 := ⟨⟨_, rfl⟩, rfl, rfl, rfl, by decide, by decide, by decide +kernel⟩
set_option maxHeartbeats 4000000 in
set_option maxRecDepth 100000 in
theorem m_X1_guards {l : Launch} (hfl : l.stackTraces = false) {D : va_G} {cyI cyZ cyJ : ClassId} {sc : SC} {g : Nat} {h1 : Nat → Nat} {b1 : S2} {h2 : Nat → Nat} {b2 : S2} {rx : Int32} (hf : X1_guards b1 b2 = some rx) : Ct (ev_s, sc) l yX1_guards wsX1_guards rm_X1_guards D (ty3 cyI cyZ cyJ) [.ref g] (wC g h1 h2 ++ (wB cyI h1 b1 ++ wB cyI h2 b2)) (fun o => o = .inr (some (.int rx), wC g h1 h2 ++ (wB cyI h1 b1 ++ wB cyI h2 b2))) 0 0 := by
  refine ct_of (cc := cX1_guards) (nL := 1) (own := RX1) (ret := (some .int)) hfl (by decide) rfl rfl (Nat.le_of_ble_eq_true rfl) (fun p e s m args below meth c A C hr hnm => ?_)
  refine g_setQ (fun Q hQ => ?_)
  have kw0 := Cx.w C (.fieldLink RX1 10 "SleepBorder" "now" "LSleepBorder$Border;") (by decide +kernel)
  have iX1 : ∀ w ∈ u_ws RX1 TX1 2, w ∈ wsX1_guards := by decide +kernel
  have kw2 := Cx.w C (.fieldLink RX1 19 "SleepBorder$Border" "guardCount" "I") (by decide +kernel)
  have iX0 : ∀ w ∈ u_ws RX0 TX0 15, w ∈ wsX1_guards := by decide +kernel
  unfold X1_guards at hf
  refine g_lve (lv' := [(0, .ref g)]) rfl ?_
  refine g_aload_n C dX1_guards_0 1 rfl 0 rfl ?_
  refine g_get C iX1 0 rfl rfl 0 (by decide) kw0 rfl rfl dX1_guards_1 4 rfl ?_
  refine g_get C iX0 1 rfl rfl 11 (by decide) kw2 rfl rfl dX1_guards_4 7 rfl ?_
  refine g_Q hQ ?_
  exact g_iret C hr (by cases hf; rfl) (Nat.le_of_ble_eq_true rfl) (Nat.le_of_ble_eq_true rfl) dX1_guards_7
abbrev rm_X1_alertnessOf : Room := { frames := 7, cells := 1, slots := 6, locals := 103 }
theorem cf_X1_alertnessOf : CF yX1_alertnessOf wsX1_alertnessOf rm_X1_alertnessOf cX1_alertnessOf 2 (some .int) 1 1 6 RX1 := ⟨⟨_, rfl⟩, rfl, rfl, rfl, by decide, by decide, by decide +kernel⟩
set_option maxHeartbeats 4000000 in
set_option maxRecDepth 100000 in
theorem m_X1_alertnessOf {l : Launch} (hfl : l.stackTraces = false) {D : va_G} {cyI cyZ cyJ : ClassId} {sc : SC} {g : Nat} {h1 : Nat → Nat} {b1 : S2} {h2 : Nat → Nat} {b2 : S2} {a0 : Int32} {r : Nat ⊕ (Int32)} (hf : X1_alertnessOf b1 b2 a0 = some r) : Ct (ev_s, sc) l yX1_alertnessOf wsX1_alertnessOf rm_X1_alertnessOf D (ty3 cyI cyZ cyJ) [.ref g, .int a0] (wC g h1 h2 ++ (wB cyI h1 b1 ++ wB cyI h2 b2)) (fun o => o = Sum.elim Sum.inl (fun q => Sum.inr (some (.int q), wC g h1 h2 ++ (wB cyI h1 b1 ++ wB cyI h2 b2))) r) 1 6 := by
  refine ct_of (cc := cX1_alertnessOf) (nL := 2) (own := RX1) (ret := (some .int)) hfl (by decide) rfl rfl (Nat.le_of_ble_eq_true rfl) (fun p e s m args below meth c A C hr hnm => ?_)
  refine g_setQ (fun Q hQ => ?_)
  have kw0 := Cx.w C (.fieldLink RX1 10 "SleepBorder" "now" "LSleepBorder$Border;") (by decide +kernel)
  have iX1 : ∀ w ∈ u_ws RX1 TX1 2, w ∈ wsX1_alertnessOf := by decide +kernel
  have kw2 := Cx.w C (.fieldLink RX1 65 "SleepBorder$Border" "alertness" "[I") (by decide +kernel)
  have iX0 : ∀ w ∈ u_ws RX0 TX0 15, w ∈ wsX1_alertnessOf := by decide +kernel
  unfold X1_alertnessOf at hf
  refine g_lve (lv' := [(0, .ref g), (1, .int a0)]) rfl ?_
  refine g_aload_n C dX1_alertnessOf_0 1 rfl 0 rfl ?_
  refine g_iload_n C dX1_alertnessOf_1 2 rfl 1 rfl ?_
  rcases bx0_s hf with ⟨ne2, e1, e3⟩ | ⟨e1, hf⟩
  · exact g_callVx C (m_X1_requireGuard_x hfl (g := g) (h1 := h1) (h2 := h2) e1) cf_X1_requireGuard gX1_alertnessOf_X1_requireGuard ⟨Nat.le_of_ble_eq_true rfl, Nat.le_of_ble_eq_true rfl⟩ (q0 := 0) (As := [.int a0]) (rest := []) (wl := []) (wr := []) (c2 := 1) (s2 := 6) rfl rfl rfl rfl rfl rfl (Nat.le_of_ble_eq_true rfl) rfl rfl ⟨Nat.le_of_ble_eq_true rfl, Nat.le_of_ble_eq_true rfl⟩ dX1_alertnessOf_2 5 rfl (g_xQ hQ (g_xout C (by rw [e3]; rfl) rfl (Nat.le_of_ble_eq_true rfl) (Nat.le_of_ble_eq_true rfl)))
  · refine g_callV1 C (m_X1_requireGuard_r hfl (g := g) (h1 := h1) (h2 := h2) e1) cf_X1_requireGuard gX1_alertnessOf_X1_requireGuard ⟨Nat.le_of_ble_eq_true rfl, Nat.le_of_ble_eq_true rfl⟩ (q0 := 0) (As := [.int a0]) (rest := []) (wl := []) (wr := []) (c2 := 1) (s2 := 6) rfl rfl rfl rfl rfl rfl (Nat.le_of_ble_eq_true rfl) rfl rfl ⟨Nat.le_of_ble_eq_true rfl, Nat.le_of_ble_eq_true rfl⟩ dX1_alertnessOf_2 5 rfl (ws2 := wC g h1 h2 ++ (wB cyI h1 b1 ++ wB cyI h2 b2)) rfl (st2 := []) rfl ?_
    refine g_aload_n C dX1_alertnessOf_5 6 rfl 0 rfl ?_
    refine g_get C iX1 0 rfl rfl 0 (by decide) kw0 rfl rfl dX1_alertnessOf_6 9 rfl ?_
    refine g_get C iX0 1 rfl rfl 12 (by decide) kw2 rfl rfl dX1_alertnessOf_9 12 rfl ?_
    refine g_iload_n C dX1_alertnessOf_12 13 rfl 1 rfl ?_
    obtain ⟨x5, e4, hf⟩ := bd1_s hf
    refine g_iald C 9 0 rfl rfl e4 dX1_alertnessOf_13 14 rfl ?_
    refine g_Q hQ ?_
    exact g_iret C hr (by cases hf; rfl) (Nat.le_of_ble_eq_true rfl) (Nat.le_of_ble_eq_true rfl) dX1_alertnessOf_14
theorem m_X1_alertnessOf_r {l : Launch} (hfl : l.stackTraces = false) {D : va_G} {cyI cyZ cyJ : ClassId} {sc : SC} {g : Nat} {h1 : Nat → Nat} {b1 : S2} {h2 : Nat → Nat} {b2 : S2} {a0 : Int32} {rx : Int32} (hf : X1_alertnessOf b1 b2 a0 = some (.inr rx)) : Ct (ev_s, sc) l yX1_alertnessOf wsX1_alertnessOf rm_X1_alertnessOf D (ty3 cyI cyZ cyJ) [.ref g, .int a0] (wC g h1 h2 ++ (wB cyI h1 b1 ++ wB cyI h2 b2)) (fun o => o = .inr (some (.int rx), wC g h1 h2 ++ (wB cyI h1 b1 ++ wB cyI h2 b2))) 1 6 := m_X1_alertnessOf hfl hf
theorem m_X1_alertnessOf_x {l : Launch} (hfl : l.stackTraces = false) {D : va_G} {cyI cyZ cyJ : ClassId} {sc : SC} {g : Nat} {h1 : Nat → Nat} {b1 : S2} {h2 : Nat → Nat} {b2 : S2} {a0 : Int32} {n : Nat} (hf : X1_alertnessOf b1 b2 a0 = some (.inl n)) : Ct (ev_s, sc) l yX1_alertnessOf wsX1_alertnessOf rm_X1_alertnessOf D (ty3 cyI cyZ cyJ) [.ref g, .int a0] (wC g h1 h2 ++ (wB cyI h1 b1 ++ wB cyI h2 b2)) (fun o => o = .inl n) 1 6 := m_X1_alertnessOf hfl hf
abbrev rm_X1_searches : Room := { frames := 7, cells := 1, slots := 6, locals := 103 }
theorem cf_X1_searches : CF yX1_searches wsX1_searches rm_X1_searches cX1_searches 2 (some .int) 1 1 6 RX1 := ⟨⟨_, rfl⟩, rfl, rfl, rfl, by decide, by decide, by decide +kernel⟩
set_option maxHeartbeats 4000000 in
set_option maxRecDepth 100000 in
theorem m_X1_searches {l : Launch} (hfl : l.stackTraces = false) {D : va_G} {cyI cyZ cyJ : ClassId} {sc : SC} {g : Nat} {h1 : Nat → Nat} {b1 : S2} {h2 : Nat → Nat} {b2 : S2} {a0 : Int32} {r : Nat ⊕ (Int32)} (hf : X1_searches b1 b2 a0 = some r) : Ct (ev_s, sc) l yX1_searches wsX1_searches rm_X1_searches D (ty3 cyI cyZ cyJ) [.ref g, .int a0] (wC g h1 h2 ++ (wB cyI h1 b1 ++ wB cyI h2 b2)) (fun o => o = Sum.elim Sum.inl (fun q => Sum.inr (some (.int q), wC g h1 h2 ++ (wB cyI h1 b1 ++ wB cyI h2 b2))) r) 1 6 := by
  refine ct_of (cc := cX1_searches) (nL := 2) (own := RX1) (ret := (some .int)) hfl (by decide) rfl rfl (Nat.le_of_ble_eq_true rfl) (fun p e s m args below meth c A C hr hnm => ?_)
  refine g_setQ (fun Q hQ => ?_)
  have kw0 := Cx.w C (.fieldLink RX1 10 "SleepBorder" "now" "LSleepBorder$Border;") (by decide +kernel)
  have iX1 : ∀ w ∈ u_ws RX1 TX1 2, w ∈ wsX1_searches := by decide +kernel
  have kw2 := Cx.w C (.fieldLink RX1 103 "SleepBorder$Border" "searched" "[I") (by decide +kernel)
  have iX0 : ∀ w ∈ u_ws RX0 TX0 15, w ∈ wsX1_searches := by decide +kernel
  unfold X1_searches at hf
  refine g_lve (lv' := [(0, .ref g), (1, .int a0)]) rfl ?_
  refine g_aload_n C dX1_searches_0 1 rfl 0 rfl ?_
  refine g_iload_n C dX1_searches_1 2 rfl 1 rfl ?_
  rcases bx0_s hf with ⟨ne2, e1, e3⟩ | ⟨e1, hf⟩
  · exact g_callVx C (m_X1_requireGuard_x hfl (g := g) (h1 := h1) (h2 := h2) e1) cf_X1_requireGuard gX1_searches_X1_requireGuard ⟨Nat.le_of_ble_eq_true rfl, Nat.le_of_ble_eq_true rfl⟩ (q0 := 0) (As := [.int a0]) (rest := []) (wl := []) (wr := []) (c2 := 1) (s2 := 6) rfl rfl rfl rfl rfl rfl (Nat.le_of_ble_eq_true rfl) rfl rfl ⟨Nat.le_of_ble_eq_true rfl, Nat.le_of_ble_eq_true rfl⟩ dX1_searches_2 5 rfl (g_xQ hQ (g_xout C (by rw [e3]; rfl) rfl (Nat.le_of_ble_eq_true rfl) (Nat.le_of_ble_eq_true rfl)))
  · refine g_callV1 C (m_X1_requireGuard_r hfl (g := g) (h1 := h1) (h2 := h2) e1) cf_X1_requireGuard gX1_searches_X1_requireGuard ⟨Nat.le_of_ble_eq_true rfl, Nat.le_of_ble_eq_true rfl⟩ (q0 := 0) (As := [.int a0]) (rest := []) (wl := []) (wr := []) (c2 := 1) (s2 := 6) rfl rfl rfl rfl rfl rfl (Nat.le_of_ble_eq_true rfl) rfl rfl ⟨Nat.le_of_ble_eq_true rfl, Nat.le_of_ble_eq_true rfl⟩ dX1_searches_2 5 rfl (ws2 := wC g h1 h2 ++ (wB cyI h1 b1 ++ wB cyI h2 b2)) rfl (st2 := []) rfl ?_
    refine g_aload_n C dX1_searches_5 6 rfl 0 rfl ?_
    refine g_get C iX1 0 rfl rfl 0 (by decide) kw0 rfl rfl dX1_searches_6 9 rfl ?_
    refine g_get C iX0 1 rfl rfl 13 (by decide) kw2 rfl rfl dX1_searches_9 12 rfl ?_
    refine g_iload_n C dX1_searches_12 13 rfl 1 rfl ?_
    obtain ⟨x5, e4, hf⟩ := bd1_s hf
    refine g_iald C 10 0 rfl rfl e4 dX1_searches_13 14 rfl ?_
    refine g_Q hQ ?_
    exact g_iret C hr (by cases hf; rfl) (Nat.le_of_ble_eq_true rfl) (Nat.le_of_ble_eq_true rfl) dX1_searches_14
theorem m_X1_searches_r {l : Launch} (hfl : l.stackTraces = false) {D : va_G} {cyI cyZ cyJ : ClassId} {sc : SC} {g : Nat} {h1 : Nat → Nat} {b1 : S2} {h2 : Nat → Nat} {b2 : S2} {a0 : Int32} {rx : Int32} (hf : X1_searches b1 b2 a0 = some (.inr rx)) : Ct (ev_s, sc) l yX1_searches wsX1_searches rm_X1_searches D (ty3 cyI cyZ cyJ) [.ref g, .int a0] (wC g h1 h2 ++ (wB cyI h1 b1 ++ wB cyI h2 b2)) (fun o => o = .inr (some (.int rx), wC g h1 h2 ++ (wB cyI h1 b1 ++ wB cyI h2 b2))) 1 6 := m_X1_searches hfl hf
theorem m_X1_searches_x {l : Launch} (hfl : l.stackTraces = false) {D : va_G} {cyI cyZ cyJ : ClassId} {sc : SC} {g : Nat} {h1 : Nat → Nat} {b1 : S2} {h2 : Nat → Nat} {b2 : S2} {a0 : Int32} {n : Nat} (hf : X1_searches b1 b2 a0 = some (.inl n)) : Ct (ev_s, sc) l yX1_searches wsX1_searches rm_X1_searches D (ty3 cyI cyZ cyJ) [.ref g, .int a0] (wC g h1 h2 ++ (wB cyI h1 b1 ++ wB cyI h2 b2)) (fun o => o = .inl n) 1 6 := m_X1_searches hfl hf
abbrev rm_X1_minutesToGo : Room := { frames := 7, cells := 1, slots := 6, locals := 103 }
theorem cf_X1_minutesToGo : CF yX1_minutesToGo wsX1_minutesToGo rm_X1_minutesToGo cX1_minutesToGo 2 (some .int) 1 1 6 RX1 := ⟨⟨_, rfl⟩, rfl, rfl, rfl, by decide, by decide, by decide +kernel⟩
set_option maxHeartbeats 4000000 in
set_option maxRecDepth 100000 in
theorem m_X1_minutesToGo {l : Launch} (hfl : l.stackTraces = false) {D : va_G} {cyI cyZ cyJ : ClassId} {sc : SC} {g : Nat} {h1 : Nat → Nat} {b1 : S2} {h2 : Nat → Nat} {b2 : S2} {a0 : Int32} {r : Nat ⊕ (Int32)} (hf : X1_minutesToGo b1 b2 a0 = some r) : Ct (ev_s, sc) l yX1_minutesToGo wsX1_minutesToGo rm_X1_minutesToGo D (ty3 cyI cyZ cyJ) [.ref g, .int a0] (wC g h1 h2 ++ (wB cyI h1 b1 ++ wB cyI h2 b2)) (fun o => o = Sum.elim Sum.inl (fun q => Sum.inr (some (.int q), wC g h1 h2 ++ (wB cyI h1 b1 ++ wB cyI h2 b2))) r) 1 6 := by
  refine ct_of (cc := cX1_minutesToGo) (nL := 2) (own := RX1) (ret := (some .int)) hfl (by decide) rfl rfl (Nat.le_of_ble_eq_true rfl) (fun p e s m args below meth c A C hr hnm => ?_)
  refine g_setQ (fun Q hQ => ?_)
  have kw0 := Cx.w C (.fieldLink RX1 10 "SleepBorder" "now" "LSleepBorder$Border;") (by decide +kernel)
  have iX1 : ∀ w ∈ u_ws RX1 TX1 2, w ∈ wsX1_minutesToGo := by decide +kernel
  have kw2 := Cx.w C (.fieldLink RX1 106 "SleepBorder$Border" "searchLeft" "[I") (by decide +kernel)
  have iX0 : ∀ w ∈ u_ws RX0 TX0 15, w ∈ wsX1_minutesToGo := by decide +kernel
  unfold X1_minutesToGo at hf
  refine g_lve (lv' := [(0, .ref g), (1, .int a0)]) rfl ?_
  refine g_aload_n C dX1_minutesToGo_0 1 rfl 0 rfl ?_
  refine g_iload_n C dX1_minutesToGo_1 2 rfl 1 rfl ?_
  rcases bx0_s hf with ⟨ne2, e1, e3⟩ | ⟨e1, hf⟩
  · exact g_callVx C (m_X1_requireGuard_x hfl (g := g) (h1 := h1) (h2 := h2) e1) cf_X1_requireGuard gX1_minutesToGo_X1_requireGuard ⟨Nat.le_of_ble_eq_true rfl, Nat.le_of_ble_eq_true rfl⟩ (q0 := 0) (As := [.int a0]) (rest := []) (wl := []) (wr := []) (c2 := 1) (s2 := 6) rfl rfl rfl rfl rfl rfl (Nat.le_of_ble_eq_true rfl) rfl rfl ⟨Nat.le_of_ble_eq_true rfl, Nat.le_of_ble_eq_true rfl⟩ dX1_minutesToGo_2 5 rfl (g_xQ hQ (g_xout C (by rw [e3]; rfl) rfl (Nat.le_of_ble_eq_true rfl) (Nat.le_of_ble_eq_true rfl)))
  · refine g_callV1 C (m_X1_requireGuard_r hfl (g := g) (h1 := h1) (h2 := h2) e1) cf_X1_requireGuard gX1_minutesToGo_X1_requireGuard ⟨Nat.le_of_ble_eq_true rfl, Nat.le_of_ble_eq_true rfl⟩ (q0 := 0) (As := [.int a0]) (rest := []) (wl := []) (wr := []) (c2 := 1) (s2 := 6) rfl rfl rfl rfl rfl rfl (Nat.le_of_ble_eq_true rfl) rfl rfl ⟨Nat.le_of_ble_eq_true rfl, Nat.le_of_ble_eq_true rfl⟩ dX1_minutesToGo_2 5 rfl (ws2 := wC g h1 h2 ++ (wB cyI h1 b1 ++ wB cyI h2 b2)) rfl (st2 := []) rfl ?_
    refine g_aload_n C dX1_minutesToGo_5 6 rfl 0 rfl ?_
    refine g_get C iX1 0 rfl rfl 0 (by decide) kw0 rfl rfl dX1_minutesToGo_6 9 rfl ?_
    refine g_get C iX0 1 rfl rfl 14 (by decide) kw2 rfl rfl dX1_minutesToGo_9 12 rfl ?_
    refine g_iload_n C dX1_minutesToGo_12 13 rfl 1 rfl ?_
    obtain ⟨x5, e4, hf⟩ := bd1_s hf
    refine g_iald C 11 0 rfl rfl e4 dX1_minutesToGo_13 14 rfl ?_
    refine g_Q hQ ?_
    exact g_iret C hr (by cases hf; rfl) (Nat.le_of_ble_eq_true rfl) (Nat.le_of_ble_eq_true rfl) dX1_minutesToGo_14
theorem m_X1_minutesToGo_r {l : Launch} (hfl : l.stackTraces = false) {D : va_G} {cyI cyZ cyJ : ClassId} {sc : SC} {g : Nat} {h1 : Nat → Nat} {b1 : S2} {h2 : Nat → Nat} {b2 : S2} {a0 : Int32} {rx : Int32} (hf : X1_minutesToGo b1 b2 a0 = some (.inr rx)) : Ct (ev_s, sc) l yX1_minutesToGo wsX1_minutesToGo rm_X1_minutesToGo D (ty3 cyI cyZ cyJ) [.ref g, .int a0] (wC g h1 h2 ++ (wB cyI h1 b1 ++ wB cyI h2 b2)) (fun o => o = .inr (some (.int rx), wC g h1 h2 ++ (wB cyI h1 b1 ++ wB cyI h2 b2))) 1 6 := m_X1_minutesToGo hfl hf
theorem m_X1_minutesToGo_x {l : Launch} (hfl : l.stackTraces = false) {D : va_G} {cyI cyZ cyJ : ClassId} {sc : SC} {g : Nat} {h1 : Nat → Nat} {b1 : S2} {h2 : Nat → Nat} {b2 : S2} {a0 : Int32} {n : Nat} (hf : X1_minutesToGo b1 b2 a0 = some (.inl n)) : Ct (ev_s, sc) l yX1_minutesToGo wsX1_minutesToGo rm_X1_minutesToGo D (ty3 cyI cyZ cyJ) [.ref g, .int a0] (wC g h1 h2 ++ (wB cyI h1 b1 ++ wB cyI h2 b2)) (fun o => o = .inl n) 1 6 := m_X1_minutesToGo hfl hf
abbrev rm_X1_wouldFind : Room := { frames := 7, cells := 2, slots := 12, locals := 103 }
theorem cf_X1_wouldFind : CF yX1_wouldFind wsX1_wouldFind rm_X1_wouldFind cX1_wouldFind 3 (some .boolean) 2 2 12 RX1 := ⟨⟨_, rfl⟩, rfl, rfl, rfl, by decide, by decide, by decide +kernel⟩
set_option maxHeartbeats 4000000 in
set_option maxRecDepth 100000 in
theorem m_X1_wouldFind {l : Launch} (hfl : l.stackTraces = false) {D : va_G} {cyI cyZ cyJ : ClassId} {sc : SC} {g : Nat} {h1 : Nat → Nat} {b1 : S2} {h2 : Nat → Nat} {b2 : S2} {a0 : Int32} {a1 : Int32} {r : Nat ⊕ (Int32)} (hf : X1_wouldFind b1 b2 a0 a1 = some r) : Ct (ev_s, sc) l yX1_wouldFind wsX1_wouldFind rm_X1_wouldFind D (ty3 cyI cyZ cyJ) [.ref g, .int a0, .int a1] (wC g h1 h2 ++ (wB cyI h1 b1 ++ wB cyI h2 b2)) (fun o => o = Sum.elim Sum.inl (fun q => Sum.inr (some (.int q), wC g h1 h2 ++ (wB cyI h1 b1 ++ wB cyI h2 b2))) r) 2 12 := by
  refine ct_of (cc := cX1_wouldFind) (nL := 3) (own := RX1) (ret := (some .boolean)) hfl (by decide) rfl rfl (Nat.le_of_ble_eq_true rfl) (fun p e s m args below meth c A C hr hnm => ?_)
  refine g_setQ (fun Q hQ => ?_)
  have kw0 := Cx.w C (.fieldLink RX1 10 "SleepBorder" "now" "LSleepBorder$Border;") (by decide +kernel)
  have iX1 : ∀ w ∈ u_ws RX1 TX1 2, w ∈ wsX1_wouldFind := by decide +kernel
  unfold X1_wouldFind at hf
  refine g_lve (lv' := [(0, .ref g), (1, .int a0), (2, .int a1)]) rfl ?_
  refine g_aload_n C dX1_wouldFind_0 1 rfl 0 rfl ?_
  refine g_iload_n C dX1_wouldFind_1 2 rfl 1 rfl ?_
  rcases bx0_s hf with ⟨ne2, e1, e3⟩ | ⟨e1, hf⟩
  · exact g_callVx C (m_X1_requireGuard_x hfl (g := g) (h1 := h1) (h2 := h2) e1) cf_X1_requireGuard gX1_wouldFind_X1_requireGuard ⟨Nat.le_of_ble_eq_true rfl, Nat.le_of_ble_eq_true rfl⟩ (q0 := 0) (As := [.int a0]) (rest := []) (wl := []) (wr := []) (c2 := 1) (s2 := 6) rfl rfl rfl rfl rfl rfl (Nat.le_of_ble_eq_true rfl) rfl rfl ⟨Nat.le_of_ble_eq_true rfl, Nat.le_of_ble_eq_true rfl⟩ dX1_wouldFind_2 5 rfl (g_xQ hQ (g_xout C (by rw [e3]; rfl) rfl (Nat.le_of_ble_eq_true rfl) (Nat.le_of_ble_eq_true rfl)))
  · refine g_callV1 C (m_X1_requireGuard_r hfl (g := g) (h1 := h1) (h2 := h2) e1) cf_X1_requireGuard gX1_wouldFind_X1_requireGuard ⟨Nat.le_of_ble_eq_true rfl, Nat.le_of_ble_eq_true rfl⟩ (q0 := 0) (As := [.int a0]) (rest := []) (wl := []) (wr := []) (c2 := 1) (s2 := 6) rfl rfl rfl rfl rfl rfl (Nat.le_of_ble_eq_true rfl) rfl rfl ⟨Nat.le_of_ble_eq_true rfl, Nat.le_of_ble_eq_true rfl⟩ dX1_wouldFind_2 5 rfl (ws2 := wC g h1 h2 ++ (wB cyI h1 b1 ++ wB cyI h2 b2)) rfl (st2 := []) rfl ?_
    refine g_aload_n C dX1_wouldFind_5 6 rfl 0 rfl ?_
    refine g_iload_n C dX1_wouldFind_6 7 rfl 2 rfl ?_
    rcases bx0_s hf with ⟨ne5, e4, e6⟩ | ⟨e4, hf⟩
    · exact g_callVx C (m_X1_requireTraveller_x hfl (g := g) (h1 := h1) (h2 := h2) e4) cf_X1_requireTraveller gX1_wouldFind_X1_requireTraveller ⟨Nat.le_of_ble_eq_true rfl, Nat.le_of_ble_eq_true rfl⟩ (q0 := 0) (As := [.int a1]) (rest := []) (wl := []) (wr := []) (c2 := 2) (s2 := 12) rfl rfl rfl rfl rfl rfl (Nat.le_of_ble_eq_true rfl) rfl rfl ⟨Nat.le_of_ble_eq_true rfl, Nat.le_of_ble_eq_true rfl⟩ dX1_wouldFind_7 10 rfl (g_xQ hQ (g_xout C (by rw [e6]; rfl) rfl (Nat.le_of_ble_eq_true rfl) (Nat.le_of_ble_eq_true rfl)))
    · refine g_callV1 C (m_X1_requireTraveller_r hfl (g := g) (h1 := h1) (h2 := h2) e4) cf_X1_requireTraveller gX1_wouldFind_X1_requireTraveller ⟨Nat.le_of_ble_eq_true rfl, Nat.le_of_ble_eq_true rfl⟩ (q0 := 0) (As := [.int a1]) (rest := []) (wl := []) (wr := []) (c2 := 2) (s2 := 12) rfl rfl rfl rfl rfl rfl (Nat.le_of_ble_eq_true rfl) rfl rfl ⟨Nat.le_of_ble_eq_true rfl, Nat.le_of_ble_eq_true rfl⟩ dX1_wouldFind_7 10 rfl (ws2 := wC g h1 h2 ++ (wB cyI h1 b1 ++ wB cyI h2 b2)) rfl (st2 := []) rfl ?_
      refine g_aload_n C dX1_wouldFind_10 11 rfl 0 rfl ?_
      refine g_get C iX1 0 rfl rfl 0 (by decide) kw0 rfl rfl dX1_wouldFind_11 14 rfl ?_
      refine g_iload_n C dX1_wouldFind_14 15 rfl 1 rfl ?_
      refine g_iload_n C dX1_wouldFind_15 16 rfl 2 rfl ?_
      obtain ⟨x7, e8, hf⟩ := bd1_s hf
      refine g_callV1 C (m_X0_finds hfl (h := h1) e8) cf_X0_finds gX1_wouldFind_X0_finds ⟨Nat.le_of_ble_eq_true rfl, Nat.le_of_ble_eq_true rfl⟩ (q0 := 0) (As := [.int a0, .int a1]) (rest := []) (wl := wC g h1 h2) (wr := wB cyI h2 b2) (c2 := 2) (s2 := 12) rfl rfl rfl rfl rfl rfl (Nat.le_of_ble_eq_true rfl) rfl rfl ⟨Nat.le_of_ble_eq_true rfl, Nat.le_of_ble_eq_true rfl⟩ dX1_wouldFind_16 19 rfl (ws2 := wC g h1 h2 ++ (wB cyI h1 b1 ++ wB cyI h2 b2)) rfl (st2 := [.int x7]) rfl ?_
      refine g_Q hQ ?_
      obtain ⟨_, e9, hf⟩ := bd1_s hf
      exact g_zret C hr (bl_s e9) (by cases hf; rfl) (Nat.le_of_ble_eq_true rfl) (Nat.le_of_ble_eq_true rfl) dX1_wouldFind_19
theorem m_X1_wouldFind_r {l : Launch} (hfl : l.stackTraces = false) {D : va_G} {cyI cyZ cyJ : ClassId} {sc : SC} {g : Nat} {h1 : Nat → Nat} {b1 : S2} {h2 : Nat → Nat} {b2 : S2} {a0 : Int32} {a1 : Int32} {rx : Int32} (hf : X1_wouldFind b1 b2 a0 a1 = some (.inr rx)) : Ct (ev_s, sc) l yX1_wouldFind wsX1_wouldFind rm_X1_wouldFind D (ty3 cyI cyZ cyJ) [.ref g, .int a0, .int a1] (wC g h1 h2 ++ (wB cyI h1 b1 ++ wB cyI h2 b2)) (fun o => o = .inr (some (.int rx), wC g h1 h2 ++ (wB cyI h1 b1 ++ wB cyI h2 b2))) 2 12 := m_X1_wouldFind hfl hf
theorem m_X1_wouldFind_x {l : Launch} (hfl : l.stackTraces = false) {D : va_G} {cyI cyZ cyJ : ClassId} {sc : SC} {g : Nat} {h1 : Nat → Nat} {b1 : S2} {h2 : Nat → Nat} {b2 : S2} {a0 : Int32} {a1 : Int32} {n : Nat} (hf : X1_wouldFind b1 b2 a0 a1 = some (.inl n)) : Ct (ev_s, sc) l yX1_wouldFind wsX1_wouldFind rm_X1_wouldFind D (ty3 cyI cyZ cyJ) [.ref g, .int a0, .int a1] (wC g h1 h2 ++ (wB cyI h1 b1 ++ wB cyI h2 b2)) (fun o => o = .inl n) 2 12 := m_X1_wouldFind hfl hf
abbrev rm_X1_mostAlert : Room := { frames := 0, cells := 0, slots := 0, locals := 0 }
theorem cf_X1_mostAlert : CF yX1_mostAlert wsX1_mostAlert rm_X1_mostAlert cX1_mostAlert 4 (some .int) 0 0 0 RX1 := ⟨⟨_, rfl⟩, rfl, rfl, rfl, by decide, by decide, by decide +kernel⟩
set_option maxHeartbeats 4000000 in
set_option maxRecDepth 100000 in
theorem m_X1_mostAlert {l : Launch} (hfl : l.stackTraces = false) {D : va_G} {cyI cyZ cyJ : ClassId} {sc : SC} {g : Nat} {h1 : Nat → Nat} {b1 : S2} {h2 : Nat → Nat} {b2 : S2} {rx : Int32} (hf : X1_mostAlert b1 b2 = some rx) : Ct (ev_s, sc) l yX1_mostAlert wsX1_mostAlert rm_X1_mostAlert D (ty3 cyI cyZ cyJ) [.ref g] (wC g h1 h2 ++ (wB cyI h1 b1 ++ wB cyI h2 b2)) (fun o => o = .inr (some (.int rx), wC g h1 h2 ++ (wB cyI h1 b1 ++ wB cyI h2 b2))) 0 0 := by
  refine ct_of (cc := cX1_mostAlert) (nL := 4) (own := RX1) (ret := (some .int)) hfl (by decide) rfl rfl (Nat.le_of_ble_eq_true rfl) (fun p e s m args below meth c A C hr hnm => ?_)
  refine g_setQ (fun Q hQ => ?_)
  have kw0 := Cx.w C (.fieldLink RX1 10 "SleepBorder" "now" "LSleepBorder$Border;") (by decide +kernel)
  have iX1 : ∀ w ∈ u_ws RX1 TX1 2, w ∈ wsX1_mostAlert := by decide +kernel
  have kw2 := Cx.w C (.fieldLink RX1 19 "SleepBorder$Border" "guardCount" "I") (by decide +kernel)
  have iX0 : ∀ w ∈ u_ws RX0 TX0 15, w ∈ wsX1_mostAlert := by decide +kernel
  have kw4 := Cx.w C (.fieldLink RX1 65 "SleepBorder$Border" "alertness" "[I") (by decide +kernel)
  have L6 : ∀ (n : Nat) (l1 : Int32) (l2 : Int32) (l3 : Int32), X1_mostAlert_L6 b1 b2 n l1 l2 l3 = some rx → Gq p l e rm_X1_mostAlert s m args below meth c D A 4 Q (wC g h1 h2 ++ (wB cyI h1 b1 ++ wB cyI h2 b2)) 0 0 6 [(0, .ref g), (1, .int l1), (2, .int l2), (3, .int l3)] [] := by
    intro n
    induction n with
    | zero => intro l1 l2 l3 hf; simp [X1_mostAlert_L6] at hf
    | succ n ih =>
      intro l1 l2 l3 hf
      rw [X1_mostAlert_L6] at hf
      refine g_iload_n C dX1_mostAlert_6 7 rfl 3 rfl ?_
      refine g_aload_n C dX1_mostAlert_7 8 rfl 0 rfl ?_
      refine g_get C iX1 0 rfl rfl 0 (by decide) kw0 rfl rfl dX1_mostAlert_8 11 rfl ?_
      refine g_get C iX0 1 rfl rfl 11 (by decide) kw2 rfl rfl dX1_mostAlert_11 14 rfl ?_
      refine g_icmp_ge C dX1_mostAlert_14 48 17 (by decide) rfl (fun c1 => ?_) (fun c1 => ?_)
      · have hf := ifp c1 hf
        refine g_iload_n C dX1_mostAlert_48 49 rfl 1 rfl ?_
        refine g_Q hQ ?_
        exact g_iret C hr (by cases hf; rfl) (Nat.le_of_ble_eq_true rfl) (Nat.le_of_ble_eq_true rfl) dX1_mostAlert_49
      · have hf := ifn c1 hf
        refine g_aload_n C dX1_mostAlert_17 18 rfl 0 rfl ?_
        refine g_get C iX1 0 rfl rfl 0 (by decide) kw0 rfl rfl dX1_mostAlert_18 21 rfl ?_
        refine g_get C iX0 1 rfl rfl 12 (by decide) kw4 rfl rfl dX1_mostAlert_21 24 rfl ?_
        refine g_iload_n C dX1_mostAlert_24 25 rfl 3 rfl ?_
        obtain ⟨x3, e2, hf⟩ := bd1_s hf
        refine g_iald C 9 0 rfl rfl e2 dX1_mostAlert_25 26 rfl ?_
        refine g_iload_n C dX1_mostAlert_26 27 rfl 2 rfl ?_
        refine g_icmp_le C dX1_mostAlert_27 42 30 (by decide) rfl (fun c4 => ?_) (fun c4 => ?_)
        · have hf := ifp c4 hf
          refine g_iinc C dX1_mostAlert_42 45 rfl 3 rfl (ii_1 _) (by decide) (lv' := [(3, .int (l3 + 1)), (0, .ref g), (1, .int l1), (2, .int l2)]) rfl ?_
          refine g_goto C dX1_mostAlert_45 6 (by decide) ?_
          refine g_lv [1, 2, 3, 0] (lv' := [(0, .ref g), (1, .int l1), (2, .int l2), (3, .int (l3 + 1))]) rfl ?_
          exact ih l1 l2 (l3 + 1) hf
        · have hf := ifn c4 hf
          refine g_iload_n C dX1_mostAlert_30 31 rfl 3 rfl ?_
          refine g_istore_n C dX1_mostAlert_31 32 rfl (by decide) (lv' := [(1, .int l3), (0, .ref g), (2, .int l2), (3, .int l3)]) rfl ?_
          refine g_aload_n C dX1_mostAlert_32 33 rfl 1 rfl ?_
          refine g_get C iX1 0 rfl rfl 0 (by decide) kw0 rfl rfl dX1_mostAlert_33 36 rfl ?_
          refine g_get C iX0 1 rfl rfl 12 (by decide) kw4 rfl rfl dX1_mostAlert_36 39 rfl ?_
          refine g_iload_n C dX1_mostAlert_39 40 rfl 3 rfl ?_
          obtain ⟨x6, e5, hf⟩ := bd1_s hf
          refine g_iald C 9 0 rfl rfl e5 dX1_mostAlert_40 41 rfl ?_
          refine g_istore_n C dX1_mostAlert_41 42 rfl (by decide) (lv' := [(2, .int x6), (1, .int l3), (0, .ref g), (3, .int l3)]) rfl ?_
          refine g_iinc C dX1_mostAlert_42 45 rfl 3 rfl (ii_1 _) (by decide) (lv' := [(3, .int (l3 + 1)), (2, .int x6), (1, .int l3), (0, .ref g)]) rfl ?_
          refine g_goto C dX1_mostAlert_45 6 (by decide) ?_
          refine g_lv [3, 2, 1, 0] (lv' := [(0, .ref g), (1, .int l3), (2, .int x6), (3, .int (l3 + 1))]) rfl ?_
          exact ih l3 x6 (l3 + 1) hf
  unfold X1_mostAlert at hf
  refine g_lve (lv' := [(0, .ref g)]) rfl ?_
  refine g_iconst C dX1_mostAlert_0 1 rfl ic_m1 ?_
  refine g_istore_n C dX1_mostAlert_1 2 rfl (by decide) (lv' := [(1, .int (-1)), (0, .ref g)]) rfl ?_
  refine g_iconst C dX1_mostAlert_2 3 rfl ic_m1 ?_
  refine g_istore_n C dX1_mostAlert_3 4 rfl (by decide) (lv' := [(2, .int (-1)), (1, .int (-1)), (0, .ref g)]) rfl ?_
  refine g_iconst C dX1_mostAlert_4 5 rfl ic_0 ?_
  refine g_istore_n C dX1_mostAlert_5 6 rfl (by decide) (lv' := [(3, .int 0), (2, .int (-1)), (1, .int (-1)), (0, .ref g)]) rfl ?_
  refine g_lv [3, 2, 1, 0] (lv' := [(0, .ref g), (1, .int (-1)), (2, .int (-1)), (3, .int 0)]) rfl ?_
  exact L6 200 (-1) (-1) 0 hf
abbrev rm_X1_meanAlertness : Room := { frames := 0, cells := 0, slots := 0, locals := 0 }
theorem cf_X1_meanAlertness : CF yX1_meanAlertness wsX1_meanAlertness rm_X1_meanAlertness cX1_meanAlertness 3 (some .double) 0 0 0 RX1 := ⟨⟨_, rfl⟩, rfl, rfl, rfl, by decide, by decide, by decide +kernel⟩
set_option maxHeartbeats 4000000 in
set_option maxRecDepth 100000 in
theorem m_X1_meanAlertness {l : Launch} (hfl : l.stackTraces = false) {D : va_G} {cyI cyZ cyJ : ClassId} {sc : SC} {g : Nat} {h1 : Nat → Nat} {b1 : S2} {h2 : Nat → Nat} {b2 : S2} {rx : UInt64} (hf : X1_meanAlertness b1 b2 = some rx) : Ct (ev_s, sc) l yX1_meanAlertness wsX1_meanAlertness rm_X1_meanAlertness D (ty3 cyI cyZ cyJ) [.ref g] (wC g h1 h2 ++ (wB cyI h1 b1 ++ wB cyI h2 b2)) (fun o => o = .inr (some (.double rx), wC g h1 h2 ++ (wB cyI h1 b1 ++ wB cyI h2 b2))) 0 0 := by
  refine ct_of (cc := cX1_meanAlertness) (nL := 3) (own := RX1) (ret := (some .double)) hfl (by decide) rfl rfl (Nat.le_of_ble_eq_true rfl) (fun p e s m args below meth c A C hr hnm => ?_)
  refine g_setQ (fun Q hQ => ?_)
  have kw0 := Cx.w C (.fieldLink RX1 10 "SleepBorder" "now" "LSleepBorder$Border;") (by decide +kernel)
  have iX1 : ∀ w ∈ u_ws RX1 TX1 2, w ∈ wsX1_meanAlertness := by decide +kernel
  have kw2 := Cx.w C (.fieldLink RX1 19 "SleepBorder$Border" "guardCount" "I") (by decide +kernel)
  have iX0 : ∀ w ∈ u_ws RX0 TX0 15, w ∈ wsX1_meanAlertness := by decide +kernel
  have kw4 := Cx.w C (.fieldLink RX1 65 "SleepBorder$Border" "alertness" "[I") (by decide +kernel)
  have L16 : ∀ (n : Nat) (l1 : Int32) (l2 : Int32), X1_meanAlertness_L16 b1 b2 n l1 l2 = some rx → Gq p l e rm_X1_meanAlertness s m args below meth c D A 3 Q (wC g h1 h2 ++ (wB cyI h1 b1 ++ wB cyI h2 b2)) 0 0 16 [(0, .ref g), (1, .int l1), (2, .int l2)] [] := by
    intro n
    induction n with
    | zero => intro l1 l2 hf; simp [X1_meanAlertness_L16] at hf
    | succ n ih =>
      intro l1 l2 hf
      rw [X1_meanAlertness_L16] at hf
      refine g_iload_n C dX1_meanAlertness_16 17 rfl 2 rfl ?_
      refine g_aload_n C dX1_meanAlertness_17 18 rfl 0 rfl ?_
      refine g_get C iX1 0 rfl rfl 0 (by decide) kw0 rfl rfl dX1_meanAlertness_18 21 rfl ?_
      refine g_get C iX0 1 rfl rfl 11 (by decide) kw2 rfl rfl dX1_meanAlertness_21 24 rfl ?_
      refine g_icmp_ge C dX1_meanAlertness_24 45 27 (by decide) rfl (fun c2 => ?_) (fun c2 => ?_)
      · have hf := ifp c2 hf
        refine g_iload_n C dX1_meanAlertness_45 46 rfl 1 rfl ?_
        refine g_i2d C dX1_meanAlertness_46 47 rfl ?_
        refine g_aload_n C dX1_meanAlertness_47 48 rfl 0 rfl ?_
        refine g_get C iX1 0 rfl rfl 0 (by decide) kw0 rfl rfl dX1_meanAlertness_48 51 rfl ?_
        refine g_get C iX0 1 rfl rfl 11 (by decide) kw2 rfl rfl dX1_meanAlertness_51 54 rfl ?_
        refine g_i2d C dX1_meanAlertness_54 55 rfl ?_
        obtain ⟨_, e3, hf⟩ := bd1_s hf
        refine g_ddiv C (nn_s e3) dX1_meanAlertness_55 56 rfl ?_
        refine g_Q hQ ?_
        exact g_dret C hr (by cases hf; rfl) (Nat.le_of_ble_eq_true rfl) (Nat.le_of_ble_eq_true rfl) dX1_meanAlertness_56
      · have hf := ifn c2 hf
        refine g_iload_n C dX1_meanAlertness_27 28 rfl 1 rfl ?_
        refine g_aload_n C dX1_meanAlertness_28 29 rfl 0 rfl ?_
        refine g_get C iX1 0 rfl rfl 0 (by decide) kw0 rfl rfl dX1_meanAlertness_29 32 rfl ?_
        refine g_get C iX0 1 rfl rfl 12 (by decide) kw4 rfl rfl dX1_meanAlertness_32 35 rfl ?_
        refine g_iload_n C dX1_meanAlertness_35 36 rfl 2 rfl ?_
        obtain ⟨x5, e4, hf⟩ := bd1_s hf
        refine g_iald C 9 0 rfl rfl e4 dX1_meanAlertness_36 37 rfl ?_
        refine g_iadd C dX1_meanAlertness_37 38 rfl ?_
        refine g_istore_n C dX1_meanAlertness_38 39 rfl (by decide) (lv' := [(1, .int (l1 + x5)), (0, .ref g), (2, .int l2)]) rfl ?_
        refine g_iinc C dX1_meanAlertness_39 42 rfl 2 rfl (ii_1 _) (by decide) (lv' := [(2, .int (l2 + 1)), (1, .int (l1 + x5)), (0, .ref g)]) rfl ?_
        refine g_goto C dX1_meanAlertness_42 16 (by decide) ?_
        refine g_lv [2, 1, 0] (lv' := [(0, .ref g), (1, .int (l1 + x5)), (2, .int (l2 + 1))]) rfl ?_
        exact ih (l1 + x5) (l2 + 1) hf
  unfold X1_meanAlertness at hf
  refine g_lve (lv' := [(0, .ref g)]) rfl ?_
  refine g_aload_n C dX1_meanAlertness_0 1 rfl 0 rfl ?_
  refine g_get C iX1 0 rfl rfl 0 (by decide) kw0 rfl rfl dX1_meanAlertness_1 4 rfl ?_
  refine g_get C iX0 1 rfl rfl 11 (by decide) kw2 rfl rfl dX1_meanAlertness_4 7 rfl ?_
  refine g_if_ne C dX1_meanAlertness_7 12 10 (by decide) rfl (fun c1 => ?_) (fun c1 => ?_)
  · have hf := ifn c1 hf
    refine g_iconst C dX1_meanAlertness_12 13 rfl ic_0 ?_
    refine g_istore_n C dX1_meanAlertness_13 14 rfl (by decide) (lv' := [(1, .int 0), (0, .ref g)]) rfl ?_
    refine g_iconst C dX1_meanAlertness_14 15 rfl ic_0 ?_
    refine g_istore_n C dX1_meanAlertness_15 16 rfl (by decide) (lv' := [(2, .int 0), (1, .int 0), (0, .ref g)]) rfl ?_
    refine g_lv [2, 1, 0] (lv' := [(0, .ref g), (1, .int 0), (2, .int 0)]) rfl ?_
    exact L16 200 0 0 hf
  · have hf := ifp c1 hf
    refine g_dconst0 C dX1_meanAlertness_10 11 rfl ?_
    refine g_Q hQ ?_
    exact g_dret C hr (by cases hf; rfl) (Nat.le_of_ble_eq_true rfl) (Nat.le_of_ble_eq_true rfl) dX1_meanAlertness_11
