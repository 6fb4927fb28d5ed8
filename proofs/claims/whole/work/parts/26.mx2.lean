/-! the machine does what the functions say (laid by wip/whole/gen) -/
abbrev rm_X2_thrown : Room := { frames := 0, cells := 0, slots := 0, locals := 0 }
theorem cf_X2_thrown : CF yX2_thrown wsX2_thrown rm_X2_thrown cX2_thrown 1 (some .int) 0 0 0 RX2 := ⟨⟨_, rfl⟩, rfl, rfl, rfl, by decide, by decide, by decide +kernel⟩
set_option maxHeartbeats 4000000 in
set_option maxRecDepth 100000 in
theorem m_X2_thrown {l : Launch} (hfl : l.stackTraces = false) {D : va_G} {cyI cyZ cyJ : ClassId} {h : Nat → Nat} {w : S2} {rx : Int32} (hf : X2_thrown w = some rx) : Ct ev_s l yX2_thrown wsX2_thrown rm_X2_thrown D (ty3 cyI cyZ cyJ) [.ref (h 0)] (wM cyI cyZ h w) (fun o => o = .inr (some (.int rx), wM cyI cyZ h w)) 0 0 := by
  refine ct_of (cc := cX2_thrown) (nL := 1) (own := RX2) (ret := (some .int)) hfl (by decide) rfl rfl (Nat.le_of_ble_eq_true rfl) (fun p e s m args below meth c A C hr hnm => ?_)
  refine g_setQ (fun Q hQ => ?_)
  have kw0 := Cx.w C (.fieldLink RX2 26 "SleepBorderModel" "thrown" "I") (by decide +kernel)
  have iX2 : ∀ w ∈ u_ws RX2 TX2 7, w ∈ wsX2_thrown := by decide +kernel
  unfold X2_thrown at hf
  refine g_lve (lv' := [(0, .ref (h 0))]) rfl ?_
  refine g_aload_n C dX2_thrown_0 1 rfl 0 rfl ?_
  refine g_get C iX2 0 rfl rfl 0 (by decide) kw0 rfl rfl dX2_thrown_1 4 rfl ?_
  refine g_Q hQ ?_
  exact g_iret C hr (by cases hf; rfl) (Nat.le_of_ble_eq_true rfl) (Nat.le_of_ble_eq_true rfl) dX2_thrown_4
abbrev rm_X2_fail : Room := { frames := 0, cells := 0, slots := 0, locals := 0 }
theorem cf_X2_fail : CF yX2_fail wsX2_fail rm_X2_fail cX2_fail 2 (some .int) 1 0 0 RX2 := ⟨⟨_, rfl⟩, rfl, rfl, rfl, by decide, by decide, by decide +kernel⟩
set_option maxHeartbeats 4000000 in
set_option maxRecDepth 100000 in
theorem m_X2_fail {l : Launch} (hfl : l.stackTraces = false) {D : va_G} {cyI cyZ cyJ : ClassId} {h : Nat → Nat} {w : S2} {a0 : Int32} {rx : Int32} {rw : S2} (hf : X2_fail w a0 = some (rx, rw)) : Ct ev_s l yX2_fail wsX2_fail rm_X2_fail D (ty3 cyI cyZ cyJ) [.ref (h 0), .int a0] (wM cyI cyZ h w) (fun o => o = .inr (some (.int rx), wM cyI cyZ h rw)) 0 0 := by
  refine ct_of (cc := cX2_fail) (nL := 2) (own := RX2) (ret := (some .int)) hfl (by decide) rfl rfl (Nat.le_of_ble_eq_true rfl) (fun p e s m args below meth c A C hr hnm => ?_)
  refine g_setQ (fun Q hQ => ?_)
  have kw0 := Cx.w C (.fieldLink RX2 26 "SleepBorderModel" "thrown" "I") (by decide +kernel)
  have iX2 : ∀ w ∈ u_ws RX2 TX2 7, w ∈ wsX2_fail := by decide +kernel
  unfold X2_fail at hf
  refine g_lve (lv' := [(0, .ref (h 0)), (1, .int a0)]) rfl ?_
  refine g_aload_n C dX2_fail_0 1 rfl 0 rfl ?_
  refine g_iload_n C dX2_fail_1 2 rfl 1 rfl ?_
  obtain ⟨w_2, e1, hf⟩ := bd1_s hf
  refine g_put C iX2 tyX2 tyX2_ok nmX2 0 rfl rfl 0 (by decide) kw0 rfl rfl rfl (Nat.le_of_ble_eq_true rfl) (st_34 (cyI := cyI) (cyZ := cyZ) (cyJ := cyJ) e1) dX2_fail_2 5 rfl ?_
  refine g_iconst C dX2_fail_5 6 rfl ic_0 ?_
  refine g_Q hQ ?_
  exact g_iret C hr (by cases hf; rfl) (Nat.le_of_ble_eq_true rfl) (Nat.le_of_ble_eq_true rfl) dX2_fail_6
abbrev rm_X2_told : Room := { frames := 0, cells := 0, slots := 0, locals := 0 }
theorem cf_X2_told : CF yX2_told wsX2_told rm_X2_told cX2_told 2 (some .int) 1 0 0 RX2 := ⟨⟨_, rfl⟩, rfl, rfl, rfl, by decide, by decide, by decide +kernel⟩
set_option maxHeartbeats 4000000 in
set_option maxRecDepth 100000 in
theorem m_X2_told {l : Launch} (hfl : l.stackTraces = false) {D : va_G} {cyI cyZ cyJ : ClassId} {h : Nat → Nat} {w : S2} {a0 : Int32} {rx : Int32} {rw : S2} (hf : X2_told w a0 = some (rx, rw)) : Ct ev_s l yX2_told wsX2_told rm_X2_told D (ty3 cyI cyZ cyJ) [.ref (h 0), .int a0] (wM cyI cyZ h w) (fun o => o = .inr (some (.int rx), wM cyI cyZ h rw)) 0 0 := by
  refine ct_of (cc := cX2_told) (nL := 2) (own := RX2) (ret := (some .int)) hfl (by decide) rfl rfl (Nat.le_of_ble_eq_true rfl) (fun p e s m args below meth c A C hr hnm => ?_)
  refine g_setQ (fun Q hQ => ?_)
  have kw0 := Cx.w C (.fieldLink RX2 26 "SleepBorderModel" "thrown" "I") (by decide +kernel)
  have iX2 : ∀ w ∈ u_ws RX2 TX2 7, w ∈ wsX2_told := by decide +kernel
  unfold X2_told at hf
  refine g_lve (lv' := [(0, .ref (h 0)), (1, .int a0)]) rfl ?_
  refine g_aload_n C dX2_told_0 1 rfl 0 rfl ?_
  refine g_iconst C dX2_told_1 2 rfl ic_0 ?_
  obtain ⟨w_2, e1, hf⟩ := bd1_s hf
  refine g_put C iX2 tyX2 tyX2_ok nmX2 0 rfl rfl 0 (by decide) kw0 rfl rfl rfl (Nat.le_of_ble_eq_true rfl) (st_34 (cyI := cyI) (cyZ := cyZ) (cyJ := cyJ) e1) dX2_told_2 5 rfl ?_
  refine g_iload_n C dX2_told_5 6 rfl 1 rfl ?_
  refine g_Q hQ ?_
  exact g_iret C hr (by cases hf; rfl) (Nat.le_of_ble_eq_true rfl) (Nat.le_of_ble_eq_true rfl) dX2_told_6
abbrev rm_X2_isIn : Room := { frames := 0, cells := 0, slots := 0, locals := 0 }
theorem cf_X2_isIn : CF yX2_isIn wsX2_isIn rm_X2_isIn cX2_isIn 3 (some .boolean) 3 0 0 RX2 := ⟨⟨_, rfl⟩, rfl, rfl, rfl, by decide, by decide, by decide +kernel⟩
set_option maxHeartbeats 4000000 in
set_option maxRecDepth 100000 in
theorem m_X2_isIn {l : Launch} (hfl : l.stackTraces = false) {D : va_G} {cyI cyZ cyJ : ClassId}  {a0 : Int32} {a1 : Int32} {a2 : Int32} {rx : Int32} (hf : X2_isIn a0 a1 a2 = some rx) : Ct ev_s l yX2_isIn wsX2_isIn rm_X2_isIn D (ty3 cyI cyZ cyJ) [.int a0, .int a1, .int a2] ([]) (fun o => o = .inr (some (.int rx), [])) 0 0 := by
  refine ct_of (cc := cX2_isIn) (nL := 3) (own := RX2) (ret := (some .boolean)) hfl (by decide) rfl rfl (Nat.le_of_ble_eq_true rfl) (fun p e s m args below meth c A C hr hnm => ?_)
  refine g_setQ (fun Q hQ => ?_)
  unfold X2_isIn at hf
  refine g_lve (lv' := [(0, .int a0), (1, .int a1), (2, .int a2)]) rfl ?_
  refine g_iload_n C dX2_isIn_0 1 rfl 0 rfl ?_
  refine g_iload_n C dX2_isIn_1 2 rfl 1 rfl ?_
  refine g_icmp_lt C dX2_isIn_2 14 5 (by decide) rfl (fun c1 => ?_) (fun c1 => ?_)
  · have hf := ifp c1 hf
    refine g_iconst C dX2_isIn_14 15 rfl ic_0 ?_
    refine g_Q hQ ?_
    exact g_zret C hr (Or.inl rfl) (by cases hf; rfl) (Nat.le_of_ble_eq_true rfl) (Nat.le_of_ble_eq_true rfl) dX2_isIn_15
  · have hf := ifn c1 hf
    refine g_iload_n C dX2_isIn_5 6 rfl 0 rfl ?_
    refine g_iload_n C dX2_isIn_6 7 rfl 2 rfl ?_
    refine g_icmp_gt C dX2_isIn_7 14 10 (by decide) rfl (fun c2 => ?_) (fun c2 => ?_)
    · have hf := ifp c2 hf
      refine g_iconst C dX2_isIn_14 15 rfl ic_0 ?_
      refine g_Q hQ ?_
      exact g_zret C hr (Or.inl rfl) (by cases hf; rfl) (Nat.le_of_ble_eq_true rfl) (Nat.le_of_ble_eq_true rfl) dX2_isIn_15
    · have hf := ifn c2 hf
      refine g_iconst C dX2_isIn_10 11 rfl ic_1 ?_
      refine g_goto C dX2_isIn_11 15 (by decide) ?_
      refine g_Q hQ ?_
      exact g_zret C hr (Or.inr rfl) (by cases hf; rfl) (Nat.le_of_ble_eq_true rfl) (Nat.le_of_ble_eq_true rfl) dX2_isIn_15
abbrev rm_X2_isTraveller : Room := { frames := 1, cells := 0, slots := 0, locals := 22 }
theorem cf_X2_isTraveller : CF yX2_isTraveller wsX2_isTraveller rm_X2_isTraveller cX2_isTraveller 2 (some .boolean) 1 0 0 RX2 := ⟨⟨_, rfl⟩, rfl, rfl, rfl, by decide, by decide, by decide +kernel⟩
set_option maxHeartbeats 4000000 in
set_option maxRecDepth 100000 in
theorem m_X2_isTraveller {l : Launch} (hfl : l.stackTraces = false) {D : va_G} {cyI cyZ cyJ : ClassId} {h : Nat → Nat} {w : S2} {a0 : Int32} {rx : Int32} (hf : X2_isTraveller w a0 = some rx) : Ct ev_s l yX2_isTraveller wsX2_isTraveller rm_X2_isTraveller D (ty3 cyI cyZ cyJ) [.ref (h 0), .int a0] (wM cyI cyZ h w) (fun o => o = .inr (some (.int rx), wM cyI cyZ h w)) 0 0 := by
  refine ct_of (cc := cX2_isTraveller) (nL := 2) (own := RX2) (ret := (some .boolean)) hfl (by decide) rfl rfl (Nat.le_of_ble_eq_true rfl) (fun p e s m args below meth c A C hr hnm => ?_)
  refine g_setQ (fun Q hQ => ?_)
  have kw0 := Cx.w C (.fieldLink RX2 30 "SleepBorderModel" "travellers" "I") (by decide +kernel)
  have iX2 : ∀ w ∈ u_ws RX2 TX2 7, w ∈ wsX2_isTraveller := by decide +kernel
  unfold X2_isTraveller at hf
  refine g_lve (lv' := [(0, .ref (h 0)), (1, .int a0)]) rfl ?_
  refine g_iload_n C dX2_isTraveller_0 1 rfl 1 rfl ?_
  refine g_iconst C dX2_isTraveller_1 2 rfl ic_0 ?_
  refine g_aload_n C dX2_isTraveller_2 3 rfl 0 rfl ?_
  refine g_get C iX2 0 rfl rfl 1 (by decide) kw0 rfl rfl dX2_isTraveller_3 6 rfl ?_
  refine g_iconst C dX2_isTraveller_6 7 rfl ic_1 ?_
  refine g_isub C dX2_isTraveller_7 8 rfl ?_
  obtain ⟨x1, e2, hf⟩ := bd1_s hf
  refine g_callS1 C (m_X2_isIn hfl  e2) cf_X2_isIn gX2_isTraveller_X2_isIn ⟨Nat.le_of_ble_eq_true rfl, Nat.le_of_ble_eq_true rfl⟩ (As := [.int a0, .int 0, .int ((w 0 1) - 1)]) (rest := []) (wl := []) (wr := wM cyI cyZ h w) (c2 := 0) (s2 := 0) rfl rfl rfl (Nat.le_of_ble_eq_true rfl) rfl rfl ⟨Nat.le_of_ble_eq_true rfl, Nat.le_of_ble_eq_true rfl⟩ dX2_isTraveller_8 11 rfl (ws2 := wM cyI cyZ h w) rfl (st2 := [.int x1]) rfl ?_
  refine g_Q hQ ?_
  obtain ⟨_, e3, hf⟩ := bd1_s hf
  exact g_zret C hr (bl_s e3) (by cases hf; rfl) (Nat.le_of_ble_eq_true rfl) (Nat.le_of_ble_eq_true rfl) dX2_isTraveller_11
abbrev rm_X2_isGuard : Room := { frames := 1, cells := 0, slots := 0, locals := 22 }
theorem cf_X2_isGuard : CF yX2_isGuard wsX2_isGuard rm_X2_isGuard cX2_isGuard 2 (some .boolean) 1 0 0 RX2 := ⟨⟨_, rfl⟩, rfl, rfl, rfl, by decide, by decide, by decide +kernel⟩
set_option maxHeartbeats 4000000 in
set_option maxRecDepth 100000 in
theorem m_X2_isGuard {l : Launch} (hfl : l.stackTraces = false) {D : va_G} {cyI cyZ cyJ : ClassId} {h : Nat → Nat} {w : S2} {a0 : Int32} {rx : Int32} (hf : X2_isGuard w a0 = some rx) : Ct ev_s l yX2_isGuard wsX2_isGuard rm_X2_isGuard D (ty3 cyI cyZ cyJ) [.ref (h 0), .int a0] (wM cyI cyZ h w) (fun o => o = .inr (some (.int rx), wM cyI cyZ h w)) 0 0 := by
  refine ct_of (cc := cX2_isGuard) (nL := 2) (own := RX2) (ret := (some .boolean)) hfl (by decide) rfl rfl (Nat.le_of_ble_eq_true rfl) (fun p e s m args below meth c A C hr hnm => ?_)
  refine g_setQ (fun Q hQ => ?_)
  have kw0 := Cx.w C (.fieldLink RX2 16 "SleepBorderModel" "now" "[I") (by decide +kernel)
  have iX2 : ∀ w ∈ u_ws RX2 TX2 7, w ∈ wsX2_isGuard := by decide +kernel
  unfold X2_isGuard at hf
  refine g_lve (lv' := [(0, .ref (h 0)), (1, .int a0)]) rfl ?_
  refine g_iload_n C dX2_isGuard_0 1 rfl 1 rfl ?_
  refine g_iconst C dX2_isGuard_1 2 rfl ic_0 ?_
  refine g_aload_n C dX2_isGuard_2 3 rfl 0 rfl ?_
  refine g_get C iX2 0 rfl rfl 4 (by decide) kw0 rfl rfl dX2_isGuard_3 6 rfl ?_
  refine g_iconst C dX2_isGuard_6 7 rfl ic_3 ?_
  obtain ⟨x2, e1, hf⟩ := bd1_s hf
  refine g_iald C 3 0 rfl rfl e1 dX2_isGuard_7 8 rfl ?_
  refine g_iconst C dX2_isGuard_8 9 rfl ic_1 ?_
  refine g_isub C dX2_isGuard_9 10 rfl ?_
  obtain ⟨x3, e4, hf⟩ := bd1_s hf
  refine g_callS1 C (m_X2_isIn hfl  e4) cf_X2_isIn gX2_isGuard_X2_isIn ⟨Nat.le_of_ble_eq_true rfl, Nat.le_of_ble_eq_true rfl⟩ (As := [.int a0, .int 0, .int (x2 - 1)]) (rest := []) (wl := []) (wr := wM cyI cyZ h w) (c2 := 0) (s2 := 0) rfl rfl rfl (Nat.le_of_ble_eq_true rfl) rfl rfl ⟨Nat.le_of_ble_eq_true rfl, Nat.le_of_ble_eq_true rfl⟩ dX2_isGuard_10 13 rfl (ws2 := wM cyI cyZ h w) rfl (st2 := [.int x3]) rfl ?_
  refine g_Q hQ ?_
  obtain ⟨_, e5, hf⟩ := bd1_s hf
  exact g_zret C hr (bl_s e5) (by cases hf; rfl) (Nat.le_of_ble_eq_true rfl) (Nat.le_of_ble_eq_true rfl) dX2_isGuard_13
abbrev rm_X2_tr : Room := { frames := 0, cells := 0, slots := 0, locals := 0 }
theorem cf_X2_tr : CF yX2_tr wsX2_tr rm_X2_tr cX2_tr 3 (some .int) 2 0 0 RX2 := ⟨⟨_, rfl⟩, rfl, rfl, rfl, by decide, by decide, by decide +kernel⟩
set_option maxHeartbeats 4000000 in
set_option maxRecDepth 100000 in
theorem m_X2_tr {l : Launch} (hfl : l.stackTraces = false) {D : va_G} {cyI cyZ cyJ : ClassId} {h : Nat → Nat} {w : S2} {a0 : Int32} {a1 : Int32} {rx : Int32} (hf : X2_tr w a0 a1 = some rx) : Ct ev_s l yX2_tr wsX2_tr rm_X2_tr D (ty3 cyI cyZ cyJ) [.ref (h 0), .int a0, .int a1] (wM cyI cyZ h w) (fun o => o = .inr (some (.int rx), wM cyI cyZ h w)) 0 0 := by
  refine ct_of (cc := cX2_tr) (nL := 3) (own := RX2) (ret := (some .int)) hfl (by decide) rfl rfl (Nat.le_of_ble_eq_true rfl) (fun p e s m args below meth c A C hr hnm => ?_)
  refine g_setQ (fun Q hQ => ?_)
  have kw0 := Cx.w C (.fieldLink RX2 16 "SleepBorderModel" "now" "[I") (by decide +kernel)
  have iX2 : ∀ w ∈ u_ws RX2 TX2 7, w ∈ wsX2_tr := by decide +kernel
  unfold X2_tr at hf
  refine g_lve (lv' := [(0, .ref (h 0)), (1, .int a0), (2, .int a1)]) rfl ?_
  refine g_aload_n C dX2_tr_0 1 rfl 0 rfl ?_
  refine g_get C iX2 0 rfl rfl 4 (by decide) kw0 rfl rfl dX2_tr_1 4 rfl ?_
  refine g_bipush C dX2_tr_4 6 rfl bp_28 ?_
  refine g_iconst C dX2_tr_6 7 rfl ic_4 ?_
  refine g_iload_n C dX2_tr_7 8 rfl 1 rfl ?_
  refine g_imul C dX2_tr_8 9 rfl ?_
  refine g_iadd C dX2_tr_9 10 rfl ?_
  refine g_iload_n C dX2_tr_10 11 rfl 2 rfl ?_
  refine g_iadd C dX2_tr_11 12 rfl ?_
  obtain ⟨x2, e1, hf⟩ := bd1_s hf
  refine g_iald C 3 0 rfl rfl e1 dX2_tr_12 13 rfl ?_
  refine g_Q hQ ?_
  exact g_iret C hr (by cases hf; rfl) (Nat.le_of_ble_eq_true rfl) (Nat.le_of_ble_eq_true rfl) dX2_tr_13
abbrev rm_X2_let : Room := { frames := 0, cells := 0, slots := 0, locals := 0 }
theorem cf_X2_let : CF yX2_let wsX2_let rm_X2_let cX2_let 4 none 3 0 0 RX2 := ⟨⟨_, rfl⟩, rfl, rfl, rfl, by decide, by decide, by decide +kernel⟩
set_option maxHeartbeats 4000000 in
set_option maxRecDepth 100000 in
theorem m_X2_let {l : Launch} (hfl : l.stackTraces = false) {D : va_G} {cyI cyZ cyJ : ClassId} {h : Nat → Nat} {w : S2} {a0 : Int32} {a1 : Int32} {a2 : Int32} {rw : S2} (hf : X2_let w a0 a1 a2 = some rw) : Ct ev_s l yX2_let wsX2_let rm_X2_let D (ty3 cyI cyZ cyJ) [.ref (h 0), .int a0, .int a1, .int a2] (wM cyI cyZ h w) (fun o => o = .inr (none, wM cyI cyZ h rw)) 0 0 := by
  refine ct_of (cc := cX2_let) (nL := 4) (own := RX2) (ret := none) hfl (by decide) rfl rfl (Nat.le_of_ble_eq_true rfl) (fun p e s m args below meth c A C hr hnm => ?_)
  refine g_setQ (fun Q hQ => ?_)
  have kw0 := Cx.w C (.fieldLink RX2 16 "SleepBorderModel" "now" "[I") (by decide +kernel)
  have iX2 : ∀ w ∈ u_ws RX2 TX2 7, w ∈ wsX2_let := by decide +kernel
  unfold X2_let at hf
  refine g_lve (lv' := [(0, .ref (h 0)), (1, .int a0), (2, .int a1), (3, .int a2)]) rfl ?_
  refine g_aload_n C dX2_let_0 1 rfl 0 rfl ?_
  refine g_get C iX2 0 rfl rfl 4 (by decide) kw0 rfl rfl dX2_let_1 4 rfl ?_
  refine g_bipush C dX2_let_4 6 rfl bp_28 ?_
  refine g_iconst C dX2_let_6 7 rfl ic_4 ?_
  refine g_iload_n C dX2_let_7 8 rfl 1 rfl ?_
  refine g_imul C dX2_let_8 9 rfl ?_
  refine g_iadd C dX2_let_9 10 rfl ?_
  refine g_iload_n C dX2_let_10 11 rfl 2 rfl ?_
  refine g_iadd C dX2_let_11 12 rfl ?_
  refine g_iload_n C dX2_let_12 13 rfl 3 rfl ?_
  obtain ⟨w_2, e1, hf⟩ := bd1_s hf
  refine g_iast C 3 0 rfl rfl (stA_in e1) (st_35 (cyI := cyI) (cyZ := cyZ) (cyJ := cyJ) e1) dX2_let_13 14 rfl ?_
  refine g_Q hQ ?_
  exact g_vret C hr (by cases hf; rfl) (Nat.le_of_ble_eq_true rfl) (Nat.le_of_ble_eq_true rfl) dX2_let_14
abbrev rm_X2_gu : Room := { frames := 0, cells := 0, slots := 0, locals := 0 }
theorem cf_X2_gu : CF yX2_gu wsX2_gu rm_X2_gu cX2_gu 3 (some .int) 2 0 0 RX2 := ⟨⟨_, rfl⟩, rfl, rfl, rfl, by decide, by decide, by decide +kernel⟩
set_option maxHeartbeats 4000000 in
set_option maxRecDepth 100000 in
theorem m_X2_gu {l : Launch} (hfl : l.stackTraces = false) {D : va_G} {cyI cyZ cyJ : ClassId} {h : Nat → Nat} {w : S2} {a0 : Int32} {a1 : Int32} {rx : Int32} (hf : X2_gu w a0 a1 = some rx) : Ct ev_s l yX2_gu wsX2_gu rm_X2_gu D (ty3 cyI cyZ cyJ) [.ref (h 0), .int a0, .int a1] (wM cyI cyZ h w) (fun o => o = .inr (some (.int rx), wM cyI cyZ h w)) 0 0 := by
  refine ct_of (cc := cX2_gu) (nL := 3) (own := RX2) (ret := (some .int)) hfl (by decide) rfl rfl (Nat.le_of_ble_eq_true rfl) (fun p e s m args below meth c A C hr hnm => ?_)
  refine g_setQ (fun Q hQ => ?_)
  have kw0 := Cx.w C (.fieldLink RX2 16 "SleepBorderModel" "now" "[I") (by decide +kernel)
  have iX2 : ∀ w ∈ u_ws RX2 TX2 7, w ∈ wsX2_gu := by decide +kernel
  unfold X2_gu at hf
  refine g_lve (lv' := [(0, .ref (h 0)), (1, .int a0), (2, .int a1)]) rfl ?_
  refine g_aload_n C dX2_gu_0 1 rfl 0 rfl ?_
  refine g_get C iX2 0 rfl rfl 4 (by decide) kw0 rfl rfl dX2_gu_1 4 rfl ?_
  refine g_iconst C dX2_gu_4 5 rfl ic_4 ?_
  refine g_iconst C dX2_gu_5 6 rfl ic_3 ?_
  refine g_iload_n C dX2_gu_6 7 rfl 1 rfl ?_
  refine g_imul C dX2_gu_7 8 rfl ?_
  refine g_iadd C dX2_gu_8 9 rfl ?_
  refine g_iload_n C dX2_gu_9 10 rfl 2 rfl ?_
  refine g_iadd C dX2_gu_10 11 rfl ?_
  obtain ⟨x2, e1, hf⟩ := bd1_s hf
  refine g_iald C 3 0 rfl rfl e1 dX2_gu_11 12 rfl ?_
  refine g_Q hQ ?_
  exact g_iret C hr (by cases hf; rfl) (Nat.le_of_ble_eq_true rfl) (Nat.le_of_ble_eq_true rfl) dX2_gu_12
abbrev rm_X2_post : Room := { frames := 0, cells := 0, slots := 0, locals := 0 }
theorem cf_X2_post : CF yX2_post wsX2_post rm_X2_post cX2_post 4 none 3 0 0 RX2 := ⟨⟨_, rfl⟩, rfl, rfl, rfl, by decide, by decide, by decide +kernel⟩
set_option maxHeartbeats 4000000 in
set_option maxRecDepth 100000 in
theorem m_X2_post {l : Launch} (hfl : l.stackTraces = false) {D : va_G} {cyI cyZ cyJ : ClassId} {h : Nat → Nat} {w : S2} {a0 : Int32} {a1 : Int32} {a2 : Int32} {rw : S2} (hf : X2_post w a0 a1 a2 = some rw) : Ct ev_s l yX2_post wsX2_post rm_X2_post D (ty3 cyI cyZ cyJ) [.ref (h 0), .int a0, .int a1, .int a2] (wM cyI cyZ h w) (fun o => o = .inr (none, wM cyI cyZ h rw)) 0 0 := by
  refine ct_of (cc := cX2_post) (nL := 4) (own := RX2) (ret := none) hfl (by decide) rfl rfl (Nat.le_of_ble_eq_true rfl) (fun p e s m args below meth c A C hr hnm => ?_)
  refine g_setQ (fun Q hQ => ?_)
  have kw0 := Cx.w C (.fieldLink RX2 16 "SleepBorderModel" "now" "[I") (by decide +kernel)
  have iX2 : ∀ w ∈ u_ws RX2 TX2 7, w ∈ wsX2_post := by decide +kernel
  unfold X2_post at hf
  refine g_lve (lv' := [(0, .ref (h 0)), (1, .int a0), (2, .int a1), (3, .int a2)]) rfl ?_
  refine g_aload_n C dX2_post_0 1 rfl 0 rfl ?_
  refine g_get C iX2 0 rfl rfl 4 (by decide) kw0 rfl rfl dX2_post_1 4 rfl ?_
  refine g_iconst C dX2_post_4 5 rfl ic_4 ?_
  refine g_iconst C dX2_post_5 6 rfl ic_3 ?_
  refine g_iload_n C dX2_post_6 7 rfl 1 rfl ?_
  refine g_imul C dX2_post_7 8 rfl ?_
  refine g_iadd C dX2_post_8 9 rfl ?_
  refine g_iload_n C dX2_post_9 10 rfl 2 rfl ?_
  refine g_iadd C dX2_post_10 11 rfl ?_
  refine g_iload_n C dX2_post_11 12 rfl 3 rfl ?_
  obtain ⟨w_2, e1, hf⟩ := bd1_s hf
  refine g_iast C 3 0 rfl rfl (stA_in e1) (st_35 (cyI := cyI) (cyZ := cyZ) (cyJ := cyJ) e1) dX2_post_12 13 rfl ?_
  refine g_Q hQ ?_
  exact g_vret C hr (by cases hf; rfl) (Nat.le_of_ble_eq_true rfl) (Nat.le_of_ble_eq_true rfl) dX2_post_13
abbrev rm_X2_keep : Room := { frames := 1, cells := 0, slots := 0, locals := 60 }
theorem cf_X2_keep : CF yX2_keep wsX2_keep rm_X2_keep cX2_keep 1 none 0 0 0 RX2 := ⟨⟨_, rfl⟩, rfl, rfl, rfl, by decide, by decide, by decide +kernel⟩
set_option maxHeartbeats 4000000 in
set_option maxRecDepth 100000 in
theorem m_X2_keep {l : Launch} (hfl : l.stackTraces = false) {D : va_G} {cyI cyZ cyJ : ClassId} {h : Nat → Nat} {w : S2} {rw : S2} (hf : X2_keep w = some rw) : Ct ev_s l yX2_keep wsX2_keep rm_X2_keep D (ty3 cyI cyZ cyJ) [.ref (h 0)] (wM cyI cyZ h w) (fun o => o = .inr (none, wM cyI cyZ h rw)) 0 0 := by
  refine ct_of (cc := cX2_keep) (nL := 1) (own := RX2) (ret := none) hfl (by decide) rfl rfl (Nat.le_of_ble_eq_true rfl) (fun p e s m args below meth c A C hr hnm => ?_)
  refine g_setQ (fun Q hQ => ?_)
  have kw0 := Cx.w C (.fieldLink RX2 16 "SleepBorderModel" "now" "[I") (by decide +kernel)
  have iX2 : ∀ w ∈ u_ws RX2 TX2 7, w ∈ wsX2_keep := by decide +kernel
  have kw2 := Cx.w C (.fieldLink RX2 19 "SleepBorderModel" "kept" "[I") (by decide +kernel)
  have kw3 := Cx.w C (.methodLink RX2 37 arraycopyName) (by decide +kernel)
  have kw4 := Cx.w C (.native arraycopyName) (by decide +kernel)
  have kw5 := Cx.w C (.static arraycopyName) (by decide +kernel)
  have kw6 := Cx.w C (.initialized "java/lang/System") (by decide +kernel)
  unfold X2_keep at hf
  refine g_lve (lv' := [(0, .ref (h 0))]) rfl ?_
  refine g_aload_n C dX2_keep_0 1 rfl 0 rfl ?_
  refine g_get C iX2 0 rfl rfl 4 (by decide) kw0 rfl rfl dX2_keep_1 4 rfl ?_
  refine g_iconst C dX2_keep_4 5 rfl ic_0 ?_
  refine g_aload_n C dX2_keep_5 6 rfl 0 rfl ?_
  refine g_get C iX2 0 rfl rfl 5 (by decide) kw2 rfl rfl dX2_keep_6 9 rfl ?_
  refine g_iconst C dX2_keep_9 10 rfl ic_0 ?_
  refine g_bipush C dX2_keep_10 12 rfl bp_124 ?_
  obtain ⟨w_2, e1, hf⟩ := bd1_s hf
  refine g_copy C kw3 kw4 kw5 kw6 3 4 0 0 rfl rfl rfl rfl (cpA_b e1).1 (cpA_b e1).2.1 (cpA_b e1).2.2.1 (cpA_b e1).2.2.2.1 (cpA_b e1).2.2.2.2 (Nat.le_of_ble_eq_true rfl) (Nat.le_of_ble_eq_true rfl) (st_36 (cyI := cyI) (cyZ := cyZ) (cyJ := cyJ) e1) dX2_keep_12 15 rfl ?_
  refine g_Q hQ ?_
  exact g_vret C hr (by cases hf; rfl) (Nat.le_of_ble_eq_true rfl) (Nat.le_of_ble_eq_true rfl) dX2_keep_15
abbrev rm_X2_bringBack : Room := { frames := 1, cells := 0, slots := 0, locals := 60 }
theorem cf_X2_bringBack : CF yX2_bringBack wsX2_bringBack rm_X2_bringBack cX2_bringBack 1 none 0 0 0 RX2 := ⟨⟨_, rfl⟩, rfl, rfl, rfl, by decide, by decide, by decide +kernel⟩
set_option maxHeartbeats 4000000 in
set_option maxRecDepth 100000 in
theorem m_X2_bringBack {l : Launch} (hfl : l.stackTraces = false) {D : va_G} {cyI cyZ cyJ : ClassId} {h : Nat → Nat} {w : S2} {rw : S2} (hf : X2_bringBack w = some rw) : Ct ev_s l yX2_bringBack wsX2_bringBack rm_X2_bringBack D (ty3 cyI cyZ cyJ) [.ref (h 0)] (wM cyI cyZ h w) (fun o => o = .inr (none, wM cyI cyZ h rw)) 0 0 := by
  refine ct_of (cc := cX2_bringBack) (nL := 1) (own := RX2) (ret := none) hfl (by decide) rfl rfl (Nat.le_of_ble_eq_true rfl) (fun p e s m args below meth c A C hr hnm => ?_)
  refine g_setQ (fun Q hQ => ?_)
  have kw0 := Cx.w C (.fieldLink RX2 19 "SleepBorderModel" "kept" "[I") (by decide +kernel)
  have iX2 : ∀ w ∈ u_ws RX2 TX2 7, w ∈ wsX2_bringBack := by decide +kernel
  have kw2 := Cx.w C (.fieldLink RX2 16 "SleepBorderModel" "now" "[I") (by decide +kernel)
  have kw3 := Cx.w C (.methodLink RX2 37 arraycopyName) (by decide +kernel)
  have kw4 := Cx.w C (.native arraycopyName) (by decide +kernel)
  have kw5 := Cx.w C (.static arraycopyName) (by decide +kernel)
  have kw6 := Cx.w C (.initialized "java/lang/System") (by decide +kernel)
  unfold X2_bringBack at hf
  refine g_lve (lv' := [(0, .ref (h 0))]) rfl ?_
  refine g_aload_n C dX2_bringBack_0 1 rfl 0 rfl ?_
  refine g_get C iX2 0 rfl rfl 5 (by decide) kw0 rfl rfl dX2_bringBack_1 4 rfl ?_
  refine g_iconst C dX2_bringBack_4 5 rfl ic_0 ?_
  refine g_aload_n C dX2_bringBack_5 6 rfl 0 rfl ?_
  refine g_get C iX2 0 rfl rfl 4 (by decide) kw2 rfl rfl dX2_bringBack_6 9 rfl ?_
  refine g_iconst C dX2_bringBack_9 10 rfl ic_0 ?_
  refine g_bipush C dX2_bringBack_10 12 rfl bp_124 ?_
  obtain ⟨w_2, e1, hf⟩ := bd1_s hf
  refine g_copy C kw3 kw4 kw5 kw6 4 3 0 0 rfl rfl rfl rfl (cpA_b e1).1 (cpA_b e1).2.1 (cpA_b e1).2.2.1 (cpA_b e1).2.2.2.1 (cpA_b e1).2.2.2.2 (Nat.le_of_ble_eq_true rfl) (Nat.le_of_ble_eq_true rfl) (st_37 (cyI := cyI) (cyZ := cyZ) (cyJ := cyJ) e1) dX2_bringBack_12 15 rfl ?_
  refine g_Q hQ ?_
  exact g_vret C hr (by cases hf; rfl) (Nat.le_of_ble_eq_true rfl) (Nat.le_of_ble_eq_true rfl) dX2_bringBack_15
abbrev rm_X2_count : Room := { frames := 1, cells := 0, slots := 0, locals := 22 }
theorem cf_X2_count : CF yX2_count wsX2_count rm_X2_count cX2_count 4 (some .int) 1 0 0 RX2 := ⟨⟨_, rfl⟩, rfl, rfl, rfl, by decide, by decide, by decide +kernel⟩
set_option maxHeartbeats 4000000 in
set_option maxRecDepth 100000 in
theorem m_X2_count {l : Launch} (hfl : l.stackTraces = false) {D : va_G} {cyI cyZ cyJ : ClassId} {h : Nat → Nat} {w : S2} {a0 : Int32} {rx : Int32} (hf : X2_count w a0 = some rx) : Ct ev_s l yX2_count wsX2_count rm_X2_count D (ty3 cyI cyZ cyJ) [.ref (h 0), .int a0] (wM cyI cyZ h w) (fun o => o = .inr (some (.int rx), wM cyI cyZ h w)) 0 0 := by
  refine ct_of (cc := cX2_count) (nL := 4) (own := RX2) (ret := (some .int)) hfl (by decide) rfl rfl (Nat.le_of_ble_eq_true rfl) (fun p e s m args below meth c A C hr hnm => ?_)
  refine g_setQ (fun Q hQ => ?_)
  have kw0 := Cx.w C (.fieldLink RX2 30 "SleepBorderModel" "travellers" "I") (by decide +kernel)
  have iX2 : ∀ w ∈ u_ws RX2 TX2 7, w ∈ wsX2_count := by decide +kernel
  have L4 : ∀ (l1 : Int32) (n : Nat) (l2 : Int32) (l3 : Int32), X2_count_L4 l1 w n l2 l3 = some rx → Gq p l e rm_X2_count s m args below meth c D A 4 Q (wM cyI cyZ h w) 0 0 4 [(0, .ref (h 0)), (1, .int l1), (2, .int l2), (3, .int l3)] [] := by
    intro l1 n
    induction n with
    | zero => intro l2 l3 hf; simp [X2_count_L4] at hf
    | succ n ih =>
      intro l2 l3 hf
      rw [X2_count_L4] at hf
      refine g_iload_n C dX2_count_4 5 rfl 3 rfl ?_
      refine g_aload_n C dX2_count_5 6 rfl 0 rfl ?_
      refine g_get C iX2 0 rfl rfl 1 (by decide) kw0 rfl rfl dX2_count_6 9 rfl ?_
      refine g_icmp_ge C dX2_count_9 36 12 (by decide) rfl (fun c1 => ?_) (fun c1 => ?_)
      · have hf := ifp c1 hf
        refine g_iload_n C dX2_count_36 37 rfl 2 rfl ?_
        refine g_Q hQ ?_
        exact g_iret C hr (by cases hf; rfl) (Nat.le_of_ble_eq_true rfl) (Nat.le_of_ble_eq_true rfl) dX2_count_37
      · have hf := ifn c1 hf
        refine g_iload_n C dX2_count_12 13 rfl 2 rfl ?_
        refine g_aload_n C dX2_count_13 14 rfl 0 rfl ?_
        refine g_iload_n C dX2_count_14 15 rfl 3 rfl ?_
        refine g_iconst C dX2_count_15 16 rfl ic_0 ?_
        obtain ⟨x2, e3, hf⟩ := bd1_s hf
        refine g_callV1 C (m_X2_tr hfl (h := h) e3) cf_X2_tr gX2_count_X2_tr ⟨Nat.le_of_ble_eq_true rfl, Nat.le_of_ble_eq_true rfl⟩ (q0 := 0) (As := [.int l3, .int 0]) (rest := [.int l2]) (wl := []) (wr := []) (c2 := 0) (s2 := 0) rfl rfl rfl rfl rfl rfl (Nat.le_of_ble_eq_true rfl) rfl rfl ⟨Nat.le_of_ble_eq_true rfl, Nat.le_of_ble_eq_true rfl⟩ dX2_count_16 19 rfl (ws2 := wM cyI cyZ h w) rfl (st2 := [.int x2, .int l2]) rfl ?_
        refine g_iload_n C dX2_count_19 20 rfl 1 rfl ?_
        refine g_icmp_ne C dX2_count_20 27 23 (by decide) rfl (fun c4 => ?_) (fun c4 => ?_)
        · have hf := ifn c4 hf
          refine g_iconst C dX2_count_27 28 rfl ic_0 ?_
          refine g_iadd C dX2_count_28 29 rfl ?_
          refine g_istore_n C dX2_count_29 30 rfl (by decide) (lv' := [(2, .int (l2 + 0)), (0, .ref (h 0)), (1, .int l1), (3, .int l3)]) rfl ?_
          refine g_iinc C dX2_count_30 33 rfl 3 rfl (ii_1 _) (by decide) (lv' := [(3, .int (l3 + 1)), (2, .int (l2 + 0)), (0, .ref (h 0)), (1, .int l1)]) rfl ?_
          refine g_goto C dX2_count_33 4 (by decide) ?_
          refine g_lv [2, 3, 1, 0] (lv' := [(0, .ref (h 0)), (1, .int l1), (2, .int (l2 + 0)), (3, .int (l3 + 1))]) rfl ?_
          exact ih (l2 + 0) (l3 + 1) hf
        · have hf := ifp c4 hf
          refine g_iconst C dX2_count_23 24 rfl ic_1 ?_
          refine g_goto C dX2_count_24 28 (by decide) ?_
          refine g_iadd C dX2_count_28 29 rfl ?_
          refine g_istore_n C dX2_count_29 30 rfl (by decide) (lv' := [(2, .int (l2 + 1)), (0, .ref (h 0)), (1, .int l1), (3, .int l3)]) rfl ?_
          refine g_iinc C dX2_count_30 33 rfl 3 rfl (ii_1 _) (by decide) (lv' := [(3, .int (l3 + 1)), (2, .int (l2 + 1)), (0, .ref (h 0)), (1, .int l1)]) rfl ?_
          refine g_goto C dX2_count_33 4 (by decide) ?_
          refine g_lv [2, 3, 1, 0] (lv' := [(0, .ref (h 0)), (1, .int l1), (2, .int (l2 + 1)), (3, .int (l3 + 1))]) rfl ?_
          exact ih (l2 + 1) (l3 + 1) hf
  unfold X2_count at hf
  refine g_lve (lv' := [(0, .ref (h 0)), (1, .int a0)]) rfl ?_
  refine g_iconst C dX2_count_0 1 rfl ic_0 ?_
  refine g_istore_n C dX2_count_1 2 rfl (by decide) (lv' := [(2, .int 0), (0, .ref (h 0)), (1, .int a0)]) rfl ?_
  refine g_iconst C dX2_count_2 3 rfl ic_0 ?_
  refine g_istore_n C dX2_count_3 4 rfl (by decide) (lv' := [(3, .int 0), (2, .int 0), (0, .ref (h 0)), (1, .int a0)]) rfl ?_
  refine g_lv [2, 3, 1, 0] (lv' := [(0, .ref (h 0)), (1, .int a0), (2, .int 0), (3, .int 0)]) rfl ?_
  exact L4 a0 200 0 0 hf
abbrev rm_X2_loud : Room := { frames := 1, cells := 0, slots := 0, locals := 22 }
theorem cf_X2_loud : CF yX2_loud wsX2_loud rm_X2_loud cX2_loud 3 (some .int) 0 0 0 RX2 := ⟨⟨_, rfl⟩, rfl, rfl, rfl, by decide, by decide, by decide +kernel⟩
set_option maxHeartbeats 4000000 in
set_option maxRecDepth 100000 in
theorem m_X2_loud {l : Launch} (hfl : l.stackTraces = false) {D : va_G} {cyI cyZ cyJ : ClassId} {h : Nat → Nat} {w : S2} {rx : Int32} (hf : X2_loud w = some rx) : Ct ev_s l yX2_loud wsX2_loud rm_X2_loud D (ty3 cyI cyZ cyJ) [.ref (h 0)] (wM cyI cyZ h w) (fun o => o = .inr (some (.int rx), wM cyI cyZ h w)) 0 0 := by
  refine ct_of (cc := cX2_loud) (nL := 3) (own := RX2) (ret := (some .int)) hfl (by decide) rfl rfl (Nat.le_of_ble_eq_true rfl) (fun p e s m args below meth c A C hr hnm => ?_)
  refine g_setQ (fun Q hQ => ?_)
  have kw0 := Cx.w C (.fieldLink RX2 30 "SleepBorderModel" "travellers" "I") (by decide +kernel)
  have iX2 : ∀ w ∈ u_ws RX2 TX2 7, w ∈ wsX2_loud := by decide +kernel
  have kw2 := Cx.w C (.fieldLink RX2 13 "SleepBorderModel" "snore" "[I") (by decide +kernel)
  have L4 : ∀ (n : Nat) (l1 : Int32) (l2 : Int32), X2_loud_L4 w n l1 l2 = some rx → Gq p l e rm_X2_loud s m args below meth c D A 3 Q (wM cyI cyZ h w) 0 0 4 [(0, .ref (h 0)), (1, .int l1), (2, .int l2)] [] := by
    intro n
    induction n with
    | zero => intro l1 l2 hf; simp [X2_loud_L4] at hf
    | succ n ih =>
      intro l1 l2 hf
      rw [X2_loud_L4] at hf
      refine g_iload_n C dX2_loud_4 5 rfl 2 rfl ?_
      refine g_aload_n C dX2_loud_5 6 rfl 0 rfl ?_
      refine g_get C iX2 0 rfl rfl 1 (by decide) kw0 rfl rfl dX2_loud_6 9 rfl ?_
      refine g_icmp_ge C dX2_loud_9 41 12 (by decide) rfl (fun c1 => ?_) (fun c1 => ?_)
      · have hf := ifp c1 hf
        refine g_iload_n C dX2_loud_41 42 rfl 1 rfl ?_
        refine g_Q hQ ?_
        exact g_iret C hr (by cases hf; rfl) (Nat.le_of_ble_eq_true rfl) (Nat.le_of_ble_eq_true rfl) dX2_loud_42
      · have hf := ifn c1 hf
        refine g_iload_n C dX2_loud_12 13 rfl 1 rfl ?_
        refine g_aload_n C dX2_loud_13 14 rfl 0 rfl ?_
        refine g_iload_n C dX2_loud_14 15 rfl 2 rfl ?_
        refine g_iconst C dX2_loud_15 16 rfl ic_0 ?_
        obtain ⟨x2, e3, hf⟩ := bd1_s hf
        refine g_callV1 C (m_X2_tr hfl (h := h) e3) cf_X2_tr gX2_loud_X2_tr ⟨Nat.le_of_ble_eq_true rfl, Nat.le_of_ble_eq_true rfl⟩ (q0 := 0) (As := [.int l2, .int 0]) (rest := [.int l1]) (wl := []) (wr := []) (c2 := 0) (s2 := 0) rfl rfl rfl rfl rfl rfl (Nat.le_of_ble_eq_true rfl) rfl rfl ⟨Nat.le_of_ble_eq_true rfl, Nat.le_of_ble_eq_true rfl⟩ dX2_loud_16 19 rfl (ws2 := wM cyI cyZ h w) rfl (st2 := [.int x2, .int l1]) rfl ?_
        refine g_iconst C dX2_loud_19 20 rfl ic_2 ?_
        refine g_icmp_ne C dX2_loud_20 32 23 (by decide) rfl (fun c4 => ?_) (fun c4 => ?_)
        · have hf := ifn c4 hf
          refine g_iconst C dX2_loud_32 33 rfl ic_0 ?_
          refine g_iadd C dX2_loud_33 34 rfl ?_
          refine g_istore_n C dX2_loud_34 35 rfl (by decide) (lv' := [(1, .int (l1 + 0)), (0, .ref (h 0)), (2, .int l2)]) rfl ?_
          refine g_iinc C dX2_loud_35 38 rfl 2 rfl (ii_1 _) (by decide) (lv' := [(2, .int (l2 + 1)), (1, .int (l1 + 0)), (0, .ref (h 0))]) rfl ?_
          refine g_goto C dX2_loud_38 4 (by decide) ?_
          refine g_lv [2, 1, 0] (lv' := [(0, .ref (h 0)), (1, .int (l1 + 0)), (2, .int (l2 + 1))]) rfl ?_
          exact ih (l1 + 0) (l2 + 1) hf
        · have hf := ifp c4 hf
          refine g_aload_n C dX2_loud_23 24 rfl 0 rfl ?_
          refine g_get C iX2 0 rfl rfl 3 (by decide) kw2 rfl rfl dX2_loud_24 27 rfl ?_
          refine g_iload_n C dX2_loud_27 28 rfl 2 rfl ?_
          obtain ⟨x6, e5, hf⟩ := bd1_s hf
          refine g_iald C 2 0 rfl rfl e5 dX2_loud_28 29 rfl ?_
          refine g_goto C dX2_loud_29 33 (by decide) ?_
          refine g_iadd C dX2_loud_33 34 rfl ?_
          refine g_istore_n C dX2_loud_34 35 rfl (by decide) (lv' := [(1, .int (l1 + x6)), (0, .ref (h 0)), (2, .int l2)]) rfl ?_
          refine g_iinc C dX2_loud_35 38 rfl 2 rfl (ii_1 _) (by decide) (lv' := [(2, .int (l2 + 1)), (1, .int (l1 + x6)), (0, .ref (h 0))]) rfl ?_
          refine g_goto C dX2_loud_38 4 (by decide) ?_
          refine g_lv [2, 1, 0] (lv' := [(0, .ref (h 0)), (1, .int (l1 + x6)), (2, .int (l2 + 1))]) rfl ?_
          exact ih (l1 + x6) (l2 + 1) hf
  unfold X2_loud at hf
  refine g_lve (lv' := [(0, .ref (h 0))]) rfl ?_
  refine g_iconst C dX2_loud_0 1 rfl ic_0 ?_
  refine g_istore_n C dX2_loud_1 2 rfl (by decide) (lv' := [(1, .int 0), (0, .ref (h 0))]) rfl ?_
  refine g_iconst C dX2_loud_2 3 rfl ic_0 ?_
  refine g_istore_n C dX2_loud_3 4 rfl (by decide) (lv' := [(2, .int 0), (1, .int 0), (0, .ref (h 0))]) rfl ?_
  refine g_lv [2, 1, 0] (lv' := [(0, .ref (h 0)), (1, .int 0), (2, .int 0)]) rfl ?_
  exact L4 200 0 0 hf
abbrev rm_X2_hidden : Room := { frames := 1, cells := 0, slots := 0, locals := 22 }
theorem cf_X2_hidden : CF yX2_hidden wsX2_hidden rm_X2_hidden cX2_hidden 2 (some .int) 1 0 0 RX2 := ⟨⟨_, rfl⟩, rfl, rfl, rfl, by decide, by decide, by decide +kernel⟩
set_option maxHeartbeats 4000000 in
set_option maxRecDepth 100000 in
theorem m_X2_hidden {l : Launch} (hfl : l.stackTraces = false) {D : va_G} {cyI cyZ cyJ : ClassId} {h : Nat → Nat} {w : S2} {a0 : Int32} {rx : Int32} (hf : X2_hidden w a0 = some rx) : Ct ev_s l yX2_hidden wsX2_hidden rm_X2_hidden D (ty3 cyI cyZ cyJ) [.ref (h 0), .int a0] (wM cyI cyZ h w) (fun o => o = .inr (some (.int rx), wM cyI cyZ h w)) 0 0 := by
  refine ct_of (cc := cX2_hidden) (nL := 2) (own := RX2) (ret := (some .int)) hfl (by decide) rfl rfl (Nat.le_of_ble_eq_true rfl) (fun p e s m args below meth c A C hr hnm => ?_)
  refine g_setQ (fun Q hQ => ?_)
  have kw0 := Cx.w C (.fieldLink RX2 9 "SleepBorderModel" "dreams" "[I") (by decide +kernel)
  have iX2 : ∀ w ∈ u_ws RX2 TX2 7, w ∈ wsX2_hidden := by decide +kernel
  have kw2 := Cx.w C (.methodLink RX2 47 Lib.Math.max.name) (by decide +kernel)
  have kw3 := Cx.w C (.static Lib.Math.max.name) (by decide +kernel)
  have kw4 := Cx.w C (.initialized "java/lang/Math") (by decide +kernel)
  have kw5 := Cx.w C (.code Lib.Math.max.name Lib.Math.max.code 2 (some .int)) (by decide +kernel)
  unfold X2_hidden at hf
  refine g_lve (lv' := [(0, .ref (h 0)), (1, .int a0)]) rfl ?_
  refine g_iconst C dX2_hidden_0 1 rfl ic_0 ?_
  refine g_aload_n C dX2_hidden_1 2 rfl 0 rfl ?_
  refine g_get C iX2 0 rfl rfl 2 (by decide) kw0 rfl rfl dX2_hidden_2 5 rfl ?_
  refine g_iload_n C dX2_hidden_5 6 rfl 1 rfl ?_
  obtain ⟨x2, e1, hf⟩ := bd1_s hf
  refine g_iald C 1 0 rfl rfl e1 dX2_hidden_6 7 rfl ?_
  refine g_aload_n C dX2_hidden_7 8 rfl 0 rfl ?_
  refine g_iload_n C dX2_hidden_8 9 rfl 1 rfl ?_
  refine g_iconst C dX2_hidden_9 10 rfl ic_2 ?_
  obtain ⟨x3, e4, hf⟩ := bd1_s hf
  refine g_callV1 C (m_X2_tr hfl (h := h) e4) cf_X2_tr gX2_hidden_X2_tr ⟨Nat.le_of_ble_eq_true rfl, Nat.le_of_ble_eq_true rfl⟩ (q0 := 0) (As := [.int a0, .int 2]) (rest := [.int x2, .int 0]) (wl := []) (wr := []) (c2 := 0) (s2 := 0) rfl rfl rfl rfl rfl rfl (Nat.le_of_ble_eq_true rfl) rfl rfl ⟨Nat.le_of_ble_eq_true rfl, Nat.le_of_ble_eq_true rfl⟩ dX2_hidden_10 13 rfl (ws2 := wM cyI cyZ h w) rfl (st2 := [.int x3, .int x2, .int 0]) rfl ?_
  refine g_isub C dX2_hidden_13 14 rfl ?_
  refine g_mmax C kw2 kw3 kw4 kw5 (Nat.le_of_ble_eq_true rfl) (Nat.le_of_ble_eq_true rfl) (Nat.le_of_ble_eq_true rfl) (Nat.le_of_ble_eq_true rfl) dX2_hidden_14 17 rfl ?_
  refine g_Q hQ ?_
  exact g_iret C hr (by cases hf; rfl) (Nat.le_of_ble_eq_true rfl) (Nat.le_of_ble_eq_true rfl) dX2_hidden_17
abbrev rm_X2_finds : Room := { frames := 2, cells := 0, slots := 0, locals := 43 }
theorem cf_X2_finds : CF yX2_finds wsX2_finds rm_X2_finds cX2_finds 3 (some .boolean) 2 0 0 RX2 := ⟨⟨_, rfl⟩, rfl, rfl, rfl, by decide, by decide, by decide +kernel⟩
set_option maxHeartbeats 4000000 in
set_option maxRecDepth 100000 in
theorem m_X2_finds {l : Launch} (hfl : l.stackTraces = false) {D : va_G} {cyI cyZ cyJ : ClassId} {h : Nat → Nat} {w : S2} {a0 : Int32} {a1 : Int32} {rx : Int32} (hf : X2_finds w a0 a1 = some rx) : Ct ev_s l yX2_finds wsX2_finds rm_X2_finds D (ty3 cyI cyZ cyJ) [.ref (h 0), .int a0, .int a1] (wM cyI cyZ h w) (fun o => o = .inr (some (.int rx), wM cyI cyZ h w)) 0 0 := by
  refine ct_of (cc := cX2_finds) (nL := 3) (own := RX2) (ret := (some .boolean)) hfl (by decide) rfl rfl (Nat.le_of_ble_eq_true rfl) (fun p e s m args below meth c A C hr hnm => ?_)
  refine g_setQ (fun Q hQ => ?_)
  unfold X2_finds at hf
  refine g_lve (lv' := [(0, .ref (h 0)), (1, .int a0), (2, .int a1)]) rfl ?_
  refine g_aload_n C dX2_finds_0 1 rfl 0 rfl ?_
  refine g_iload_n C dX2_finds_1 2 rfl 2 rfl ?_
  obtain ⟨x1, e2, hf⟩ := bd1_s hf
  refine g_callV1 C (m_X2_hidden hfl (h := h) e2) cf_X2_hidden gX2_finds_X2_hidden ⟨Nat.le_of_ble_eq_true rfl, Nat.le_of_ble_eq_true rfl⟩ (q0 := 0) (As := [.int a1]) (rest := []) (wl := []) (wr := []) (c2 := 0) (s2 := 0) rfl rfl rfl rfl rfl rfl (Nat.le_of_ble_eq_true rfl) rfl rfl ⟨Nat.le_of_ble_eq_true rfl, Nat.le_of_ble_eq_true rfl⟩ dX2_finds_2 5 rfl (ws2 := wM cyI cyZ h w) rfl (st2 := [.int x1]) rfl ?_
  refine g_if_le C dX2_finds_5 29 8 (by decide) rfl (fun c3 => ?_) (fun c3 => ?_)
  · have hf := ifp c3 hf
    refine g_iconst C dX2_finds_29 30 rfl ic_0 ?_
    refine g_Q hQ ?_
    exact g_zret C hr (Or.inl rfl) (by cases hf; rfl) (Nat.le_of_ble_eq_true rfl) (Nat.le_of_ble_eq_true rfl) dX2_finds_30
  · have hf := ifn c3 hf
    refine g_aload_n C dX2_finds_8 9 rfl 0 rfl ?_
    refine g_iload_n C dX2_finds_9 10 rfl 2 rfl ?_
    obtain ⟨x4, e5, hf⟩ := bd1_s hf
    refine g_callV1 C (m_X2_hidden hfl (h := h) e5) cf_X2_hidden gX2_finds_X2_hidden ⟨Nat.le_of_ble_eq_true rfl, Nat.le_of_ble_eq_true rfl⟩ (q0 := 0) (As := [.int a1]) (rest := []) (wl := []) (wr := []) (c2 := 0) (s2 := 0) rfl rfl rfl rfl rfl rfl (Nat.le_of_ble_eq_true rfl) rfl rfl ⟨Nat.le_of_ble_eq_true rfl, Nat.le_of_ble_eq_true rfl⟩ dX2_finds_10 13 rfl (ws2 := wM cyI cyZ h w) rfl (st2 := [.int x4]) rfl ?_
    refine g_aload_n C dX2_finds_13 14 rfl 0 rfl ?_
    refine g_iload_n C dX2_finds_14 15 rfl 1 rfl ?_
    refine g_iconst C dX2_finds_15 16 rfl ic_0 ?_
    obtain ⟨x6, e7, hf⟩ := bd1_s hf
    refine g_callV1 C (m_X2_gu hfl (h := h) e7) cf_X2_gu gX2_finds_X2_gu ⟨Nat.le_of_ble_eq_true rfl, Nat.le_of_ble_eq_true rfl⟩ (q0 := 0) (As := [.int a0, .int 0]) (rest := [.int x4]) (wl := []) (wr := []) (c2 := 0) (s2 := 0) rfl rfl rfl rfl rfl rfl (Nat.le_of_ble_eq_true rfl) rfl rfl ⟨Nat.le_of_ble_eq_true rfl, Nat.le_of_ble_eq_true rfl⟩ dX2_finds_16 19 rfl (ws2 := wM cyI cyZ h w) rfl (st2 := [.int x6, .int x4]) rfl ?_
    refine g_iadd C dX2_finds_19 20 rfl ?_
    refine g_bipush C dX2_finds_20 22 rfl bp_10 ?_
    refine g_icmp_lt C dX2_finds_22 29 25 (by decide) rfl (fun c8 => ?_) (fun c8 => ?_)
    · have hf := ifp c8 hf
      refine g_iconst C dX2_finds_29 30 rfl ic_0 ?_
      refine g_Q hQ ?_
      exact g_zret C hr (Or.inl rfl) (by cases hf; rfl) (Nat.le_of_ble_eq_true rfl) (Nat.le_of_ble_eq_true rfl) dX2_finds_30
    · have hf := ifn c8 hf
      refine g_iconst C dX2_finds_25 26 rfl ic_1 ?_
      refine g_goto C dX2_finds_26 30 (by decide) ?_
      refine g_Q hQ ?_
      exact g_zret C hr (Or.inr rfl) (by cases hf; rfl) (Nat.le_of_ble_eq_true rfl) (Nat.le_of_ble_eq_true rfl) dX2_finds_30
abbrev rm_X2_takes : Room := { frames := 2, cells := 0, slots := 0, locals := 44 }
theorem cf_X2_takes : CF yX2_takes wsX2_takes rm_X2_takes cX2_takes 2 (some .int) 1 0 0 RX2 := ⟨⟨_, rfl⟩, rfl, rfl, rfl, by decide, by decide, by decide +kernel⟩
set_option maxHeartbeats 4000000 in
set_option maxRecDepth 100000 in
theorem m_X2_takes {l : Launch} (hfl : l.stackTraces = false) {D : va_G} {cyI cyZ cyJ : ClassId} {h : Nat → Nat} {w : S2} {a0 : Int32} {rx : Int32} (hf : X2_takes w a0 = some rx) : Ct ev_s l yX2_takes wsX2_takes rm_X2_takes D (ty3 cyI cyZ cyJ) [.ref (h 0), .int a0] (wM cyI cyZ h w) (fun o => o = .inr (some (.int rx), wM cyI cyZ h w)) 0 0 := by
  refine ct_of (cc := cX2_takes) (nL := 2) (own := RX2) (ret := (some .int)) hfl (by decide) rfl rfl (Nat.le_of_ble_eq_true rfl) (fun p e s m args below meth c A C hr hnm => ?_)
  refine g_setQ (fun Q hQ => ?_)
  unfold X2_takes at hf
  refine g_lve (lv' := [(0, .ref (h 0)), (1, .int a0)]) rfl ?_
  refine g_iconst C dX2_takes_0 1 rfl ic_2 ?_
  refine g_aload_n C dX2_takes_1 2 rfl 0 rfl ?_
  refine g_iload_n C dX2_takes_2 3 rfl 1 rfl ?_
  refine g_iconst C dX2_takes_3 4 rfl ic_2 ?_
  obtain ⟨x1, e2, hf⟩ := bd1_s hf
  refine g_callV1 C (m_X2_tr hfl (h := h) e2) cf_X2_tr gX2_takes_X2_tr ⟨Nat.le_of_ble_eq_true rfl, Nat.le_of_ble_eq_true rfl⟩ (q0 := 0) (As := [.int a0, .int 2]) (rest := [.int 2]) (wl := []) (wr := []) (c2 := 0) (s2 := 0) rfl rfl rfl rfl rfl rfl (Nat.le_of_ble_eq_true rfl) rfl rfl ⟨Nat.le_of_ble_eq_true rfl, Nat.le_of_ble_eq_true rfl⟩ dX2_takes_4 7 rfl (ws2 := wM cyI cyZ h w) rfl (st2 := [.int x1, .int 2]) rfl ?_
  refine g_iadd C dX2_takes_7 8 rfl ?_
  refine g_aload_n C dX2_takes_8 9 rfl 0 rfl ?_
  obtain ⟨x3, e4, hf⟩ := bd1_s hf
  refine g_callV1 C (m_X2_loud hfl (h := h) e4) cf_X2_loud gX2_takes_X2_loud ⟨Nat.le_of_ble_eq_true rfl, Nat.le_of_ble_eq_true rfl⟩ (q0 := 0) (As := []) (rest := [.int (2 + x1)]) (wl := []) (wr := []) (c2 := 0) (s2 := 0) rfl rfl rfl rfl rfl rfl (Nat.le_of_ble_eq_true rfl) rfl rfl ⟨Nat.le_of_ble_eq_true rfl, Nat.le_of_ble_eq_true rfl⟩ dX2_takes_9 12 rfl (ws2 := wM cyI cyZ h w) rfl (st2 := [.int x3, .int (2 + x1)]) rfl ?_
  refine g_iconst C dX2_takes_12 13 rfl ic_4 ?_
  refine g_idiv C (by decide) dX2_takes_13 14 rfl ?_
  refine g_iadd C dX2_takes_14 15 rfl ?_
  refine g_Q hQ ?_
  exact g_iret C hr (by cases hf; rfl) (Nat.le_of_ble_eq_true rfl) (Nat.le_of_ble_eq_true rfl) dX2_takes_15
abbrev rm_X2_first : Room := { frames := 1, cells := 0, slots := 0, locals := 22 }
theorem cf_X2_first : CF yX2_first wsX2_first rm_X2_first cX2_first 2 (some .int) 0 0 0 RX2 := ⟨⟨_, rfl⟩, rfl, rfl, rfl, by decide, by decide, by decide +kernel⟩
set_option maxHeartbeats 4000000 in
set_option maxRecDepth 100000 in
theorem m_X2_first {l : Launch} (hfl : l.stackTraces = false) {D : va_G} {cyI cyZ cyJ : ClassId} {h : Nat → Nat} {w : S2} {rx : Int32} (hf : X2_first w = some rx) : Ct ev_s l yX2_first wsX2_first rm_X2_first D (ty3 cyI cyZ cyJ) [.ref (h 0)] (wM cyI cyZ h w) (fun o => o = .inr (some (.int rx), wM cyI cyZ h w)) 0 0 := by
  refine ct_of (cc := cX2_first) (nL := 2) (own := RX2) (ret := (some .int)) hfl (by decide) rfl rfl (Nat.le_of_ble_eq_true rfl) (fun p e s m args below meth c A C hr hnm => ?_)
  refine g_setQ (fun Q hQ => ?_)
  have kw0 := Cx.w C (.fieldLink RX2 30 "SleepBorderModel" "travellers" "I") (by decide +kernel)
  have iX2 : ∀ w ∈ u_ws RX2 TX2 7, w ∈ wsX2_first := by decide +kernel
  have L2 : ∀ (n : Nat) (l1 : Int32), X2_first_L2 w n l1 = some rx → Gq p l e rm_X2_first s m args below meth c D A 2 Q (wM cyI cyZ h w) 0 0 2 [(0, .ref (h 0)), (1, .int l1)] [] := by
    intro n
    induction n with
    | zero => intro l1 hf; simp [X2_first_L2] at hf
    | succ n ih =>
      intro l1 hf
      rw [X2_first_L2] at hf
      refine g_iload_n C dX2_first_2 3 rfl 1 rfl ?_
      refine g_aload_n C dX2_first_3 4 rfl 0 rfl ?_
      refine g_get C iX2 0 rfl rfl 1 (by decide) kw0 rfl rfl dX2_first_4 7 rfl ?_
      refine g_icmp_ge C dX2_first_7 27 10 (by decide) rfl (fun c1 => ?_) (fun c1 => ?_)
      · have hf := ifp c1 hf
        refine g_iconst C dX2_first_27 28 rfl ic_m1 ?_
        refine g_Q hQ ?_
        exact g_iret C hr (by cases hf; rfl) (Nat.le_of_ble_eq_true rfl) (Nat.le_of_ble_eq_true rfl) dX2_first_28
      · have hf := ifn c1 hf
        refine g_aload_n C dX2_first_10 11 rfl 0 rfl ?_
        refine g_iload_n C dX2_first_11 12 rfl 1 rfl ?_
        refine g_iconst C dX2_first_12 13 rfl ic_0 ?_
        obtain ⟨x2, e3, hf⟩ := bd1_s hf
        refine g_callV1 C (m_X2_tr hfl (h := h) e3) cf_X2_tr gX2_first_X2_tr ⟨Nat.le_of_ble_eq_true rfl, Nat.le_of_ble_eq_true rfl⟩ (q0 := 0) (As := [.int l1, .int 0]) (rest := []) (wl := []) (wr := []) (c2 := 0) (s2 := 0) rfl rfl rfl rfl rfl rfl (Nat.le_of_ble_eq_true rfl) rfl rfl ⟨Nat.le_of_ble_eq_true rfl, Nat.le_of_ble_eq_true rfl⟩ dX2_first_13 16 rfl (ws2 := wM cyI cyZ h w) rfl (st2 := [.int x2]) rfl ?_
        refine g_if_ne C dX2_first_16 21 19 (by decide) rfl (fun c4 => ?_) (fun c4 => ?_)
        · have hf := ifn c4 hf
          refine g_iinc C dX2_first_21 24 rfl 1 rfl (ii_1 _) (by decide) (lv' := [(1, .int (l1 + 1)), (0, .ref (h 0))]) rfl ?_
          refine g_goto C dX2_first_24 2 (by decide) ?_
          refine g_lv [1, 0] (lv' := [(0, .ref (h 0)), (1, .int (l1 + 1))]) rfl ?_
          exact ih (l1 + 1) hf
        · have hf := ifp c4 hf
          refine g_iload_n C dX2_first_19 20 rfl 1 rfl ?_
          refine g_Q hQ ?_
          exact g_iret C hr (by cases hf; rfl) (Nat.le_of_ble_eq_true rfl) (Nat.le_of_ble_eq_true rfl) dX2_first_20
  unfold X2_first at hf
  refine g_lve (lv' := [(0, .ref (h 0))]) rfl ?_
  refine g_iconst C dX2_first_0 1 rfl ic_0 ?_
  refine g_istore_n C dX2_first_1 2 rfl (by decide) (lv' := [(1, .int 0), (0, .ref (h 0))]) rfl ?_
  refine g_lv [1, 0] (lv' := [(0, .ref (h 0)), (1, .int 0)]) rfl ?_
  exact L2 200 0 hf
abbrev rm_X2_travel : Room := { frames := 1, cells := 0, slots := 0, locals := 23 }
theorem cf_X2_travel : CF yX2_travel wsX2_travel rm_X2_travel cX2_travel 2 none 1 0 0 RX2 := ⟨⟨_, rfl⟩, rfl, rfl, rfl, by decide, by decide, by decide +kernel⟩
set_option maxHeartbeats 4000000 in
set_option maxRecDepth 100000 in
theorem m_X2_travel {l : Launch} (hfl : l.stackTraces = false) {D : va_G} {cyI cyZ cyJ : ClassId} {h : Nat → Nat} {w : S2} {a0 : Int32} {rw : S2} (hf : X2_travel w a0 = some rw) : Ct ev_s l yX2_travel wsX2_travel rm_X2_travel D (ty3 cyI cyZ cyJ) [.ref (h 0), .int a0] (wM cyI cyZ h w) (fun o => o = .inr (none, wM cyI cyZ h rw)) 0 0 := by
  refine ct_of (cc := cX2_travel) (nL := 2) (own := RX2) (ret := none) hfl (by decide) rfl rfl (Nat.le_of_ble_eq_true rfl) (fun p e s m args below meth c A C hr hnm => ?_)
  refine g_setQ (fun Q hQ => ?_)
  unfold X2_travel at hf
  refine g_lve (lv' := [(0, .ref (h 0)), (1, .int a0)]) rfl ?_
  refine g_aload_n C dX2_travel_0 1 rfl 0 rfl ?_
  refine g_iload_n C dX2_travel_1 2 rfl 1 rfl ?_
  refine g_iconst C dX2_travel_2 3 rfl ic_0 ?_
  obtain ⟨x1, e2, hf⟩ := bd1_s hf
  refine g_callV1 C (m_X2_tr hfl (h := h) e2) cf_X2_tr gX2_travel_X2_tr ⟨Nat.le_of_ble_eq_true rfl, Nat.le_of_ble_eq_true rfl⟩ (q0 := 0) (As := [.int a0, .int 0]) (rest := []) (wl := []) (wr := []) (c2 := 0) (s2 := 0) rfl rfl rfl rfl rfl rfl (Nat.le_of_ble_eq_true rfl) rfl rfl ⟨Nat.le_of_ble_eq_true rfl, Nat.le_of_ble_eq_true rfl⟩ dX2_travel_3 6 rfl (ws2 := wM cyI cyZ h w) rfl (st2 := [.int x1]) rfl ?_
  refine g_iconst C dX2_travel_6 7 rfl ic_2 ?_
  refine g_icmp_ne C dX2_travel_7 40 10 (by decide) rfl (fun c3 => ?_) (fun c3 => ?_)
  · have hf := ifn c3 hf
    refine g_Q hQ ?_
    exact g_vret C hr (by cases hf; rfl) (Nat.le_of_ble_eq_true rfl) (Nat.le_of_ble_eq_true rfl) dX2_travel_40
  · have hf := ifp c3 hf
    refine g_aload_n C dX2_travel_10 11 rfl 0 rfl ?_
    refine g_iload_n C dX2_travel_11 12 rfl 1 rfl ?_
    refine g_iconst C dX2_travel_12 13 rfl ic_3 ?_
    refine g_aload_n C dX2_travel_13 14 rfl 0 rfl ?_
    refine g_iload_n C dX2_travel_14 15 rfl 1 rfl ?_
    refine g_iconst C dX2_travel_15 16 rfl ic_3 ?_
    obtain ⟨x4, e5, hf⟩ := bd1_s hf
    refine g_callV1 C (m_X2_tr hfl (h := h) e5) cf_X2_tr gX2_travel_X2_tr ⟨Nat.le_of_ble_eq_true rfl, Nat.le_of_ble_eq_true rfl⟩ (q0 := 0) (As := [.int a0, .int 3]) (rest := [.int 3, .int a0, .ref (h 0)]) (wl := []) (wr := []) (c2 := 0) (s2 := 0) rfl rfl rfl rfl rfl rfl (Nat.le_of_ble_eq_true rfl) rfl rfl ⟨Nat.le_of_ble_eq_true rfl, Nat.le_of_ble_eq_true rfl⟩ dX2_travel_16 19 rfl (ws2 := wM cyI cyZ h w) rfl (st2 := [.int x4, .int 3, .int a0, .ref (h 0)]) rfl ?_
    refine g_iconst C dX2_travel_19 20 rfl ic_1 ?_
    refine g_isub C dX2_travel_20 21 rfl ?_
    obtain ⟨w_6, e7, hf⟩ := bd1_s hf
    refine g_callV1 C (m_X2_let hfl (h := h) e7) cf_X2_let gX2_travel_X2_let ⟨Nat.le_of_ble_eq_true rfl, Nat.le_of_ble_eq_true rfl⟩ (q0 := 0) (As := [.int a0, .int 3, .int (x4 - 1)]) (rest := []) (wl := []) (wr := []) (c2 := 0) (s2 := 0) rfl rfl rfl rfl rfl rfl (Nat.le_of_ble_eq_true rfl) rfl rfl ⟨Nat.le_of_ble_eq_true rfl, Nat.le_of_ble_eq_true rfl⟩ dX2_travel_21 24 rfl (ws2 := wM cyI cyZ h w_6) rfl (st2 := []) rfl ?_
    refine g_aload_n C dX2_travel_24 25 rfl 0 rfl ?_
    refine g_iload_n C dX2_travel_25 26 rfl 1 rfl ?_
    refine g_iconst C dX2_travel_26 27 rfl ic_3 ?_
    obtain ⟨x8, e9, hf⟩ := bd1_s hf
    refine g_callV1 C (m_X2_tr hfl (h := h) e9) cf_X2_tr gX2_travel_X2_tr ⟨Nat.le_of_ble_eq_true rfl, Nat.le_of_ble_eq_true rfl⟩ (q0 := 0) (As := [.int a0, .int 3]) (rest := []) (wl := []) (wr := []) (c2 := 0) (s2 := 0) rfl rfl rfl rfl rfl rfl (Nat.le_of_ble_eq_true rfl) rfl rfl ⟨Nat.le_of_ble_eq_true rfl, Nat.le_of_ble_eq_true rfl⟩ dX2_travel_27 30 rfl (ws2 := wM cyI cyZ h w_6) rfl (st2 := [.int x8]) rfl ?_
    refine g_if_ne C dX2_travel_30 40 33 (by decide) rfl (fun c10 => ?_) (fun c10 => ?_)
    · have hf := ifn c10 hf
      refine g_Q hQ ?_
      exact g_vret C hr (by cases hf; rfl) (Nat.le_of_ble_eq_true rfl) (Nat.le_of_ble_eq_true rfl) dX2_travel_40
    · have hf := ifp c10 hf
      refine g_aload_n C dX2_travel_33 34 rfl 0 rfl ?_
      refine g_iload_n C dX2_travel_34 35 rfl 1 rfl ?_
      refine g_iconst C dX2_travel_35 36 rfl ic_0 ?_
      refine g_iconst C dX2_travel_36 37 rfl ic_3 ?_
      obtain ⟨w_11, e12, hf⟩ := bd1_s hf
      refine g_callV1 C (m_X2_let hfl (h := h) e12) cf_X2_let gX2_travel_X2_let ⟨Nat.le_of_ble_eq_true rfl, Nat.le_of_ble_eq_true rfl⟩ (q0 := 0) (As := [.int a0, .int 0, .int 3]) (rest := []) (wl := []) (wr := []) (c2 := 0) (s2 := 0) rfl rfl rfl rfl rfl rfl (Nat.le_of_ble_eq_true rfl) rfl rfl ⟨Nat.le_of_ble_eq_true rfl, Nat.le_of_ble_eq_true rfl⟩ dX2_travel_37 40 rfl (ws2 := wM cyI cyZ h w_11) rfl (st2 := []) rfl ?_
      refine g_Q hQ ?_
      exact g_vret C hr (by cases hf; rfl) (Nat.le_of_ble_eq_true rfl) (Nat.le_of_ble_eq_true rfl) dX2_travel_40
abbrev rm_X2_listen : Room := { frames := 1, cells := 0, slots := 0, locals := 23 }
theorem cf_X2_listen : CF yX2_listen wsX2_listen rm_X2_listen cX2_listen 2 none 1 0 0 RX2 := ⟨⟨_, rfl⟩, rfl, rfl, rfl, by decide, by decide, by decide +kernel⟩
set_option maxHeartbeats 4000000 in
set_option maxRecDepth 100000 in
theorem m_X2_listen {l : Launch} (hfl : l.stackTraces = false) {D : va_G} {cyI cyZ cyJ : ClassId} {h : Nat → Nat} {w : S2} {a0 : Int32} {rw : S2} (hf : X2_listen w a0 = some rw) : Ct ev_s l yX2_listen wsX2_listen rm_X2_listen D (ty3 cyI cyZ cyJ) [.ref (h 0), .int a0] (wM cyI cyZ h w) (fun o => o = .inr (none, wM cyI cyZ h rw)) 0 0 := by
  refine ct_of (cc := cX2_listen) (nL := 2) (own := RX2) (ret := none) hfl (by decide) rfl rfl (Nat.le_of_ble_eq_true rfl) (fun p e s m args below meth c A C hr hnm => ?_)
  refine g_setQ (fun Q hQ => ?_)
  have kw0 := Cx.w C (.fieldLink RX2 16 "SleepBorderModel" "now" "[I") (by decide +kernel)
  have iX2 : ∀ w ∈ u_ws RX2 TX2 7, w ∈ wsX2_listen := by decide +kernel
  unfold X2_listen at hf
  refine g_lve (lv' := [(0, .ref (h 0)), (1, .int a0)]) rfl ?_
  refine g_aload_n C dX2_listen_0 1 rfl 0 rfl ?_
  refine g_iload_n C dX2_listen_1 2 rfl 1 rfl ?_
  refine g_iconst C dX2_listen_2 3 rfl ic_0 ?_
  obtain ⟨x1, e2, hf⟩ := bd1_s hf
  refine g_callV1 C (m_X2_tr hfl (h := h) e2) cf_X2_tr gX2_listen_X2_tr ⟨Nat.le_of_ble_eq_true rfl, Nat.le_of_ble_eq_true rfl⟩ (q0 := 0) (As := [.int a0, .int 0]) (rest := []) (wl := []) (wr := []) (c2 := 0) (s2 := 0) rfl rfl rfl rfl rfl rfl (Nat.le_of_ble_eq_true rfl) rfl rfl ⟨Nat.le_of_ble_eq_true rfl, Nat.le_of_ble_eq_true rfl⟩ dX2_listen_3 6 rfl (ws2 := wM cyI cyZ h w) rfl (st2 := [.int x1]) rfl ?_
  refine g_if_eq C dX2_listen_6 10 9 (by decide) rfl (fun c3 => ?_) (fun c3 => ?_)
  · have hf := ifp c3 hf
    refine g_aload_n C dX2_listen_10 11 rfl 0 rfl ?_
    refine g_iload_n C dX2_listen_11 12 rfl 1 rfl ?_
    refine g_iconst C dX2_listen_12 13 rfl ic_1 ?_
    refine g_aload_n C dX2_listen_13 14 rfl 0 rfl ?_
    refine g_iload_n C dX2_listen_14 15 rfl 1 rfl ?_
    refine g_iconst C dX2_listen_15 16 rfl ic_1 ?_
    obtain ⟨x4, e5, hf⟩ := bd1_s hf
    refine g_callV1 C (m_X2_tr hfl (h := h) e5) cf_X2_tr gX2_listen_X2_tr ⟨Nat.le_of_ble_eq_true rfl, Nat.le_of_ble_eq_true rfl⟩ (q0 := 0) (As := [.int a0, .int 1]) (rest := [.int 1, .int a0, .ref (h 0)]) (wl := []) (wr := []) (c2 := 0) (s2 := 0) rfl rfl rfl rfl rfl rfl (Nat.le_of_ble_eq_true rfl) rfl rfl ⟨Nat.le_of_ble_eq_true rfl, Nat.le_of_ble_eq_true rfl⟩ dX2_listen_16 19 rfl (ws2 := wM cyI cyZ h w) rfl (st2 := [.int x4, .int 1, .int a0, .ref (h 0)]) rfl ?_
    refine g_iconst C dX2_listen_19 20 rfl ic_1 ?_
    refine g_isub C dX2_listen_20 21 rfl ?_
    obtain ⟨w_6, e7, hf⟩ := bd1_s hf
    refine g_callV1 C (m_X2_let hfl (h := h) e7) cf_X2_let gX2_listen_X2_let ⟨Nat.le_of_ble_eq_true rfl, Nat.le_of_ble_eq_true rfl⟩ (q0 := 0) (As := [.int a0, .int 1, .int (x4 - 1)]) (rest := []) (wl := []) (wr := []) (c2 := 0) (s2 := 0) rfl rfl rfl rfl rfl rfl (Nat.le_of_ble_eq_true rfl) rfl rfl ⟨Nat.le_of_ble_eq_true rfl, Nat.le_of_ble_eq_true rfl⟩ dX2_listen_21 24 rfl (ws2 := wM cyI cyZ h w_6) rfl (st2 := []) rfl ?_
    refine g_aload_n C dX2_listen_24 25 rfl 0 rfl ?_
    refine g_iload_n C dX2_listen_25 26 rfl 1 rfl ?_
    refine g_iconst C dX2_listen_26 27 rfl ic_1 ?_
    obtain ⟨x8, e9, hf⟩ := bd1_s hf
    refine g_callV1 C (m_X2_tr hfl (h := h) e9) cf_X2_tr gX2_listen_X2_tr ⟨Nat.le_of_ble_eq_true rfl, Nat.le_of_ble_eq_true rfl⟩ (q0 := 0) (As := [.int a0, .int 1]) (rest := []) (wl := []) (wr := []) (c2 := 0) (s2 := 0) rfl rfl rfl rfl rfl rfl (Nat.le_of_ble_eq_true rfl) rfl rfl ⟨Nat.le_of_ble_eq_true rfl, Nat.le_of_ble_eq_true rfl⟩ dX2_listen_27 30 rfl (ws2 := wM cyI cyZ h w_6) rfl (st2 := [.int x8]) rfl ?_
    refine g_if_le C dX2_listen_30 34 33 (by decide) rfl (fun c10 => ?_) (fun c10 => ?_)
    · have hf := ifp c10 hf
      refine g_aload_n C dX2_listen_34 35 rfl 0 rfl ?_
      refine g_iload_n C dX2_listen_35 36 rfl 1 rfl ?_
      refine g_iconst C dX2_listen_36 37 rfl ic_0 ?_
      refine g_iconst C dX2_listen_37 38 rfl ic_4 ?_
      obtain ⟨w_11, e12, hf⟩ := bd1_s hf
      refine g_callV1 C (m_X2_let hfl (h := h) e12) cf_X2_let gX2_listen_X2_let ⟨Nat.le_of_ble_eq_true rfl, Nat.le_of_ble_eq_true rfl⟩ (q0 := 0) (As := [.int a0, .int 0, .int 4]) (rest := []) (wl := []) (wr := []) (c2 := 0) (s2 := 0) rfl rfl rfl rfl rfl rfl (Nat.le_of_ble_eq_true rfl) rfl rfl ⟨Nat.le_of_ble_eq_true rfl, Nat.le_of_ble_eq_true rfl⟩ dX2_listen_38 41 rfl (ws2 := wM cyI cyZ h w_11) rfl (st2 := []) rfl ?_
      refine g_aload_n C dX2_listen_41 42 rfl 0 rfl ?_
      refine g_get C iX2 0 rfl rfl 4 (by decide) kw0 rfl rfl dX2_listen_42 45 rfl ?_
      refine g_iconst C dX2_listen_45 46 rfl ic_1 ?_
      refine g_dup2 C dX2_listen_46 47 rfl rfl rfl ?_
      obtain ⟨x14, e13, hf⟩ := bd1_s hf
      refine g_iald C 3 0 rfl rfl e13 dX2_listen_47 48 rfl ?_
      refine g_iconst C dX2_listen_48 49 rfl ic_1 ?_
      refine g_iadd C dX2_listen_49 50 rfl ?_
      obtain ⟨w_16, e15, hf⟩ := bd1_s hf
      refine g_iast C 3 0 rfl rfl (stA_in e15) (st_35 (cyI := cyI) (cyZ := cyZ) (cyJ := cyJ) e15) dX2_listen_50 51 rfl ?_
      refine g_Q hQ ?_
      exact g_vret C hr (by cases hf; rfl) (Nat.le_of_ble_eq_true rfl) (Nat.le_of_ble_eq_true rfl) dX2_listen_51
    · have hf := ifn c10 hf
      refine g_Q hQ ?_
      exact g_vret C hr (by cases hf; rfl) (Nat.le_of_ble_eq_true rfl) (Nat.le_of_ble_eq_true rfl) dX2_listen_33
  · have hf := ifn c3 hf
    refine g_Q hQ ?_
    exact g_vret C hr (by cases hf; rfl) (Nat.le_of_ble_eq_true rfl) (Nat.le_of_ble_eq_true rfl) dX2_listen_9
abbrev rm_X2_searchOn : Room := { frames := 3, cells := 0, slots := 0, locals := 65 }
theorem cf_X2_searchOn : CF yX2_searchOn wsX2_searchOn rm_X2_searchOn cX2_searchOn 4 none 1 0 0 RX2 := ⟨⟨_, rfl⟩, rfl, rfl, rfl, by decide, by decide, by decide +kernel⟩
set_option maxHeartbeats 4000000 in
set_option maxRecDepth 100000 in
theorem m_X2_searchOn {l : Launch} (hfl : l.stackTraces = false) {D : va_G} {cyI cyZ cyJ : ClassId} {h : Nat → Nat} {w : S2} {a0 : Int32} {rw : S2} (hf : X2_searchOn w a0 = some rw) : Ct ev_s l yX2_searchOn wsX2_searchOn rm_X2_searchOn D (ty3 cyI cyZ cyJ) [.ref (h 0), .int a0] (wM cyI cyZ h w) (fun o => o = .inr (none, wM cyI cyZ h rw)) 0 0 := by
  refine ct_of (cc := cX2_searchOn) (nL := 4) (own := RX2) (ret := none) hfl (by decide) rfl rfl (Nat.le_of_ble_eq_true rfl) (fun p e s m args below meth c A C hr hnm => ?_)
  refine g_setQ (fun Q hQ => ?_)
  have kw0 := Cx.w C (.methodLink RX2 47 Lib.Math.max.name) (by decide +kernel)
  have kw1 := Cx.w C (.static Lib.Math.max.name) (by decide +kernel)
  have kw2 := Cx.w C (.initialized "java/lang/Math") (by decide +kernel)
  have kw3 := Cx.w C (.code Lib.Math.max.name Lib.Math.max.code 2 (some .int)) (by decide +kernel)
  have kw4 := Cx.w C (.fieldLink RX2 16 "SleepBorderModel" "now" "[I") (by decide +kernel)
  have iX2 : ∀ w ∈ u_ws RX2 TX2 7, w ∈ wsX2_searchOn := by decide +kernel
  unfold X2_searchOn at hf
  refine g_lve (lv' := [(0, .ref (h 0)), (1, .int a0)]) rfl ?_
  refine g_aload_n C dX2_searchOn_0 1 rfl 0 rfl ?_
  refine g_iload_n C dX2_searchOn_1 2 rfl 1 rfl ?_
  refine g_iconst C dX2_searchOn_2 3 rfl ic_2 ?_
  refine g_aload_n C dX2_searchOn_3 4 rfl 0 rfl ?_
  refine g_iload_n C dX2_searchOn_4 5 rfl 1 rfl ?_
  refine g_iconst C dX2_searchOn_5 6 rfl ic_2 ?_
  obtain ⟨x1, e2, hf⟩ := bd1_s hf
  refine g_callV1 C (m_X2_gu hfl (h := h) e2) cf_X2_gu gX2_searchOn_X2_gu ⟨Nat.le_of_ble_eq_true rfl, Nat.le_of_ble_eq_true rfl⟩ (q0 := 0) (As := [.int a0, .int 2]) (rest := [.int 2, .int a0, .ref (h 0)]) (wl := []) (wr := []) (c2 := 0) (s2 := 0) rfl rfl rfl rfl rfl rfl (Nat.le_of_ble_eq_true rfl) rfl rfl ⟨Nat.le_of_ble_eq_true rfl, Nat.le_of_ble_eq_true rfl⟩ dX2_searchOn_6 9 rfl (ws2 := wM cyI cyZ h w) rfl (st2 := [.int x1, .int 2, .int a0, .ref (h 0)]) rfl ?_
  refine g_iconst C dX2_searchOn_9 10 rfl ic_1 ?_
  refine g_isub C dX2_searchOn_10 11 rfl ?_
  obtain ⟨w_3, e4, hf⟩ := bd1_s hf
  refine g_callV1 C (m_X2_post hfl (h := h) e4) cf_X2_post gX2_searchOn_X2_post ⟨Nat.le_of_ble_eq_true rfl, Nat.le_of_ble_eq_true rfl⟩ (q0 := 0) (As := [.int a0, .int 2, .int (x1 - 1)]) (rest := []) (wl := []) (wr := []) (c2 := 0) (s2 := 0) rfl rfl rfl rfl rfl rfl (Nat.le_of_ble_eq_true rfl) rfl rfl ⟨Nat.le_of_ble_eq_true rfl, Nat.le_of_ble_eq_true rfl⟩ dX2_searchOn_11 14 rfl (ws2 := wM cyI cyZ h w_3) rfl (st2 := []) rfl ?_
  refine g_aload_n C dX2_searchOn_14 15 rfl 0 rfl ?_
  refine g_iload_n C dX2_searchOn_15 16 rfl 1 rfl ?_
  refine g_iconst C dX2_searchOn_16 17 rfl ic_2 ?_
  obtain ⟨x5, e6, hf⟩ := bd1_s hf
  refine g_callV1 C (m_X2_gu hfl (h := h) e6) cf_X2_gu gX2_searchOn_X2_gu ⟨Nat.le_of_ble_eq_true rfl, Nat.le_of_ble_eq_true rfl⟩ (q0 := 0) (As := [.int a0, .int 2]) (rest := []) (wl := []) (wr := []) (c2 := 0) (s2 := 0) rfl rfl rfl rfl rfl rfl (Nat.le_of_ble_eq_true rfl) rfl rfl ⟨Nat.le_of_ble_eq_true rfl, Nat.le_of_ble_eq_true rfl⟩ dX2_searchOn_17 20 rfl (ws2 := wM cyI cyZ h w_3) rfl (st2 := [.int x5]) rfl ?_
  refine g_if_le C dX2_searchOn_20 24 23 (by decide) rfl (fun c7 => ?_) (fun c7 => ?_)
  · have hf := ifp c7 hf
    refine g_aload_n C dX2_searchOn_24 25 rfl 0 rfl ?_
    refine g_iload_n C dX2_searchOn_25 26 rfl 1 rfl ?_
    refine g_iconst C dX2_searchOn_26 27 rfl ic_1 ?_
    obtain ⟨x8, e9, hf⟩ := bd1_s hf
    refine g_callV1 C (m_X2_gu hfl (h := h) e9) cf_X2_gu gX2_searchOn_X2_gu ⟨Nat.le_of_ble_eq_true rfl, Nat.le_of_ble_eq_true rfl⟩ (q0 := 0) (As := [.int a0, .int 1]) (rest := []) (wl := []) (wr := []) (c2 := 0) (s2 := 0) rfl rfl rfl rfl rfl rfl (Nat.le_of_ble_eq_true rfl) rfl rfl ⟨Nat.le_of_ble_eq_true rfl, Nat.le_of_ble_eq_true rfl⟩ dX2_searchOn_27 30 rfl (ws2 := wM cyI cyZ h w_3) rfl (st2 := [.int x8]) rfl ?_
    refine g_istore_n C dX2_searchOn_30 31 rfl (by decide) (lv' := [(2, .int x8), (0, .ref (h 0)), (1, .int a0)]) rfl ?_
    refine g_aload_n C dX2_searchOn_31 32 rfl 1 rfl ?_
    refine g_iload_n C dX2_searchOn_32 33 rfl 2 rfl ?_
    refine g_iload_n C dX2_searchOn_33 34 rfl 0 rfl ?_
    obtain ⟨x10, e11, hf⟩ := bd1_s hf
    refine g_callV1 C (m_X2_finds hfl (h := h) e11) cf_X2_finds gX2_searchOn_X2_finds ⟨Nat.le_of_ble_eq_true rfl, Nat.le_of_ble_eq_true rfl⟩ (q0 := 0) (As := [.int a0, .int x8]) (rest := []) (wl := []) (wr := []) (c2 := 0) (s2 := 0) rfl rfl rfl rfl rfl rfl (Nat.le_of_ble_eq_true rfl) rfl rfl ⟨Nat.le_of_ble_eq_true rfl, Nat.le_of_ble_eq_true rfl⟩ dX2_searchOn_34 37 rfl (ws2 := wM cyI cyZ h w_3) rfl (st2 := [.int x10]) rfl ?_
    refine g_istore_n C dX2_searchOn_37 38 rfl (by decide) (lv' := [(3, .int x10), (2, .int x8), (0, .ref (h 0)), (1, .int a0)]) rfl ?_
    refine g_iload_n C dX2_searchOn_38 39 rfl 0 rfl ?_
    refine g_if_eq C dX2_searchOn_39 58 42 (by decide) rfl (fun c12 => ?_) (fun c12 => ?_)
    · have hf := ifp c12 hf
      refine g_aload_n C dX2_searchOn_58 59 rfl 2 rfl ?_
      refine g_iload_n C dX2_searchOn_59 60 rfl 1 rfl ?_
      refine g_iconst C dX2_searchOn_60 61 rfl ic_0 ?_
      refine g_iload_n C dX2_searchOn_61 62 rfl 0 rfl ?_
      refine g_if_eq C dX2_searchOn_62 69 65 (by decide) rfl (fun c13 => ?_) (fun c13 => ?_)
      · have hf := ifp c13 hf
        refine g_iconst C dX2_searchOn_69 70 rfl ic_2 ?_
        obtain ⟨w_14, e15, hf⟩ := bd1_s hf
        refine g_callV1 C (m_X2_let hfl (h := h) e15) cf_X2_let gX2_searchOn_X2_let ⟨Nat.le_of_ble_eq_true rfl, Nat.le_of_ble_eq_true rfl⟩ (q0 := 0) (As := [.int x8, .int 0, .int 2]) (rest := []) (wl := []) (wr := []) (c2 := 0) (s2 := 0) rfl rfl rfl rfl rfl rfl (Nat.le_of_ble_eq_true rfl) rfl rfl ⟨Nat.le_of_ble_eq_true rfl, Nat.le_of_ble_eq_true rfl⟩ dX2_searchOn_70 73 rfl (ws2 := wM cyI cyZ h w_14) rfl (st2 := []) rfl ?_
        refine g_aload_n C dX2_searchOn_73 74 rfl 2 rfl ?_
        refine g_iload_n C dX2_searchOn_74 75 rfl 1 rfl ?_
        refine g_iconst C dX2_searchOn_75 76 rfl ic_3 ?_
        refine g_iconst C dX2_searchOn_76 77 rfl ic_5 ?_
        obtain ⟨w_16, e17, hf⟩ := bd1_s hf
        refine g_callV1 C (m_X2_let hfl (h := h) e17) cf_X2_let gX2_searchOn_X2_let ⟨Nat.le_of_ble_eq_true rfl, Nat.le_of_ble_eq_true rfl⟩ (q0 := 0) (As := [.int x8, .int 3, .int 5]) (rest := []) (wl := []) (wr := []) (c2 := 0) (s2 := 0) rfl rfl rfl rfl rfl rfl (Nat.le_of_ble_eq_true rfl) rfl rfl ⟨Nat.le_of_ble_eq_true rfl, Nat.le_of_ble_eq_true rfl⟩ dX2_searchOn_77 80 rfl (ws2 := wM cyI cyZ h w_16) rfl (st2 := []) rfl ?_
        refine g_aload_n C dX2_searchOn_80 81 rfl 2 rfl ?_
        refine g_iload_n C dX2_searchOn_81 82 rfl 3 rfl ?_
        refine g_iconst C dX2_searchOn_82 83 rfl ic_1 ?_
        refine g_iconst C dX2_searchOn_83 84 rfl ic_m1 ?_
        obtain ⟨w_18, e19, hf⟩ := bd1_s hf
        refine g_callV1 C (m_X2_post hfl (h := h) e19) cf_X2_post gX2_searchOn_X2_post ⟨Nat.le_of_ble_eq_true rfl, Nat.le_of_ble_eq_true rfl⟩ (q0 := 0) (As := [.int a0, .int 1, .int (-1)]) (rest := []) (wl := []) (wr := []) (c2 := 0) (s2 := 0) rfl rfl rfl rfl rfl rfl (Nat.le_of_ble_eq_true rfl) rfl rfl ⟨Nat.le_of_ble_eq_true rfl, Nat.le_of_ble_eq_true rfl⟩ dX2_searchOn_84 87 rfl (ws2 := wM cyI cyZ h w_18) rfl (st2 := []) rfl ?_
        refine g_aload_n C dX2_searchOn_87 88 rfl 2 rfl ?_
        refine g_iload_n C dX2_searchOn_88 89 rfl 3 rfl ?_
        refine g_iconst C dX2_searchOn_89 90 rfl ic_0 ?_
        refine g_iconst C dX2_searchOn_90 91 rfl ic_0 ?_
        refine g_aload_n C dX2_searchOn_91 92 rfl 2 rfl ?_
        refine g_iload_n C dX2_searchOn_92 93 rfl 3 rfl ?_
        refine g_iconst C dX2_searchOn_93 94 rfl ic_0 ?_
        obtain ⟨x20, e21, hf⟩ := bd1_s hf
        refine g_callV1 C (m_X2_gu hfl (h := h) e21) cf_X2_gu gX2_searchOn_X2_gu ⟨Nat.le_of_ble_eq_true rfl, Nat.le_of_ble_eq_true rfl⟩ (q0 := 0) (As := [.int a0, .int 0]) (rest := [.int 0, .int 0, .int a0, .ref (h 0)]) (wl := []) (wr := []) (c2 := 0) (s2 := 0) rfl rfl rfl rfl rfl rfl (Nat.le_of_ble_eq_true rfl) rfl rfl ⟨Nat.le_of_ble_eq_true rfl, Nat.le_of_ble_eq_true rfl⟩ dX2_searchOn_94 97 rfl (ws2 := wM cyI cyZ h w_18) rfl (st2 := [.int x20, .int 0, .int 0, .int a0, .ref (h 0)]) rfl ?_
        refine g_iconst C dX2_searchOn_97 98 rfl ic_1 ?_
        refine g_isub C dX2_searchOn_98 99 rfl ?_
        refine g_mmax C kw0 kw1 kw2 kw3 (Nat.le_of_ble_eq_true rfl) (Nat.le_of_ble_eq_true rfl) (Nat.le_of_ble_eq_true rfl) (Nat.le_of_ble_eq_true rfl) dX2_searchOn_99 102 rfl ?_
        obtain ⟨w_22, e23, hf⟩ := bd1_s hf
        refine g_callV1 C (m_X2_post hfl (h := h) e23) cf_X2_post gX2_searchOn_X2_post ⟨Nat.le_of_ble_eq_true rfl, Nat.le_of_ble_eq_true rfl⟩ (q0 := 0) (As := [.int a0, .int 0, .int (if 0 < (x20 - 1) then (x20 - 1) else 0)]) (rest := []) (wl := []) (wr := []) (c2 := 0) (s2 := 0) rfl rfl rfl rfl rfl rfl (Nat.le_of_ble_eq_true rfl) rfl rfl ⟨Nat.le_of_ble_eq_true rfl, Nat.le_of_ble_eq_true rfl⟩ dX2_searchOn_102 105 rfl (ws2 := wM cyI cyZ h w_22) rfl (st2 := []) rfl ?_
        refine g_Q hQ ?_
        exact g_vret C hr (by cases hf; rfl) (Nat.le_of_ble_eq_true rfl) (Nat.le_of_ble_eq_true rfl) dX2_searchOn_105
      · have hf := ifn c13 hf
        refine g_iconst C dX2_searchOn_65 66 rfl ic_4 ?_
        refine g_goto C dX2_searchOn_66 70 (by decide) ?_
        obtain ⟨w_24, e25, hf⟩ := bd1_s hf
        refine g_callV1 C (m_X2_let hfl (h := h) e25) cf_X2_let gX2_searchOn_X2_let ⟨Nat.le_of_ble_eq_true rfl, Nat.le_of_ble_eq_true rfl⟩ (q0 := 0) (As := [.int x8, .int 0, .int 4]) (rest := []) (wl := []) (wr := []) (c2 := 0) (s2 := 0) rfl rfl rfl rfl rfl rfl (Nat.le_of_ble_eq_true rfl) rfl rfl ⟨Nat.le_of_ble_eq_true rfl, Nat.le_of_ble_eq_true rfl⟩ dX2_searchOn_70 73 rfl (ws2 := wM cyI cyZ h w_24) rfl (st2 := []) rfl ?_
        refine g_aload_n C dX2_searchOn_73 74 rfl 2 rfl ?_
        refine g_iload_n C dX2_searchOn_74 75 rfl 1 rfl ?_
        refine g_iconst C dX2_searchOn_75 76 rfl ic_3 ?_
        refine g_iconst C dX2_searchOn_76 77 rfl ic_5 ?_
        obtain ⟨w_26, e27, hf⟩ := bd1_s hf
        refine g_callV1 C (m_X2_let hfl (h := h) e27) cf_X2_let gX2_searchOn_X2_let ⟨Nat.le_of_ble_eq_true rfl, Nat.le_of_ble_eq_true rfl⟩ (q0 := 0) (As := [.int x8, .int 3, .int 5]) (rest := []) (wl := []) (wr := []) (c2 := 0) (s2 := 0) rfl rfl rfl rfl rfl rfl (Nat.le_of_ble_eq_true rfl) rfl rfl ⟨Nat.le_of_ble_eq_true rfl, Nat.le_of_ble_eq_true rfl⟩ dX2_searchOn_77 80 rfl (ws2 := wM cyI cyZ h w_26) rfl (st2 := []) rfl ?_
        refine g_aload_n C dX2_searchOn_80 81 rfl 2 rfl ?_
        refine g_iload_n C dX2_searchOn_81 82 rfl 3 rfl ?_
        refine g_iconst C dX2_searchOn_82 83 rfl ic_1 ?_
        refine g_iconst C dX2_searchOn_83 84 rfl ic_m1 ?_
        obtain ⟨w_28, e29, hf⟩ := bd1_s hf
        refine g_callV1 C (m_X2_post hfl (h := h) e29) cf_X2_post gX2_searchOn_X2_post ⟨Nat.le_of_ble_eq_true rfl, Nat.le_of_ble_eq_true rfl⟩ (q0 := 0) (As := [.int a0, .int 1, .int (-1)]) (rest := []) (wl := []) (wr := []) (c2 := 0) (s2 := 0) rfl rfl rfl rfl rfl rfl (Nat.le_of_ble_eq_true rfl) rfl rfl ⟨Nat.le_of_ble_eq_true rfl, Nat.le_of_ble_eq_true rfl⟩ dX2_searchOn_84 87 rfl (ws2 := wM cyI cyZ h w_28) rfl (st2 := []) rfl ?_
        refine g_aload_n C dX2_searchOn_87 88 rfl 2 rfl ?_
        refine g_iload_n C dX2_searchOn_88 89 rfl 3 rfl ?_
        refine g_iconst C dX2_searchOn_89 90 rfl ic_0 ?_
        refine g_iconst C dX2_searchOn_90 91 rfl ic_0 ?_
        refine g_aload_n C dX2_searchOn_91 92 rfl 2 rfl ?_
        refine g_iload_n C dX2_searchOn_92 93 rfl 3 rfl ?_
        refine g_iconst C dX2_searchOn_93 94 rfl ic_0 ?_
        obtain ⟨x30, e31, hf⟩ := bd1_s hf
        refine g_callV1 C (m_X2_gu hfl (h := h) e31) cf_X2_gu gX2_searchOn_X2_gu ⟨Nat.le_of_ble_eq_true rfl, Nat.le_of_ble_eq_true rfl⟩ (q0 := 0) (As := [.int a0, .int 0]) (rest := [.int 0, .int 0, .int a0, .ref (h 0)]) (wl := []) (wr := []) (c2 := 0) (s2 := 0) rfl rfl rfl rfl rfl rfl (Nat.le_of_ble_eq_true rfl) rfl rfl ⟨Nat.le_of_ble_eq_true rfl, Nat.le_of_ble_eq_true rfl⟩ dX2_searchOn_94 97 rfl (ws2 := wM cyI cyZ h w_28) rfl (st2 := [.int x30, .int 0, .int 0, .int a0, .ref (h 0)]) rfl ?_
        refine g_iconst C dX2_searchOn_97 98 rfl ic_1 ?_
        refine g_isub C dX2_searchOn_98 99 rfl ?_
        refine g_mmax C kw0 kw1 kw2 kw3 (Nat.le_of_ble_eq_true rfl) (Nat.le_of_ble_eq_true rfl) (Nat.le_of_ble_eq_true rfl) (Nat.le_of_ble_eq_true rfl) dX2_searchOn_99 102 rfl ?_
        obtain ⟨w_32, e33, hf⟩ := bd1_s hf
        refine g_callV1 C (m_X2_post hfl (h := h) e33) cf_X2_post gX2_searchOn_X2_post ⟨Nat.le_of_ble_eq_true rfl, Nat.le_of_ble_eq_true rfl⟩ (q0 := 0) (As := [.int a0, .int 0, .int (if 0 < (x30 - 1) then (x30 - 1) else 0)]) (rest := []) (wl := []) (wr := []) (c2 := 0) (s2 := 0) rfl rfl rfl rfl rfl rfl (Nat.le_of_ble_eq_true rfl) rfl rfl ⟨Nat.le_of_ble_eq_true rfl, Nat.le_of_ble_eq_true rfl⟩ dX2_searchOn_102 105 rfl (ws2 := wM cyI cyZ h w_32) rfl (st2 := []) rfl ?_
        refine g_Q hQ ?_
        exact g_vret C hr (by cases hf; rfl) (Nat.le_of_ble_eq_true rfl) (Nat.le_of_ble_eq_true rfl) dX2_searchOn_105
    · have hf := ifn c12 hf
      refine g_aload_n C dX2_searchOn_42 43 rfl 2 rfl ?_
      refine g_get C iX2 0 rfl rfl 4 (by decide) kw4 rfl rfl dX2_searchOn_43 46 rfl ?_
      refine g_iconst C dX2_searchOn_46 47 rfl ic_2 ?_
      refine g_dup2 C dX2_searchOn_47 48 rfl rfl rfl ?_
      obtain ⟨x35, e34, hf⟩ := bd1_s hf
      refine g_iald C 3 0 rfl rfl e34 dX2_searchOn_48 49 rfl ?_
      refine g_iconst C dX2_searchOn_49 50 rfl ic_3 ?_
      refine g_aload_n C dX2_searchOn_50 51 rfl 2 rfl ?_
      refine g_iload_n C dX2_searchOn_51 52 rfl 1 rfl ?_
      obtain ⟨x36, e37, hf⟩ := bd1_s hf
      refine g_callV1 C (m_X2_hidden hfl (h := h) e37) cf_X2_hidden gX2_searchOn_X2_hidden ⟨Nat.le_of_ble_eq_true rfl, Nat.le_of_ble_eq_true rfl⟩ (q0 := 0) (As := [.int x8]) (rest := [.int 3, .int x35, .int 2, .ref (h 3)]) (wl := []) (wr := []) (c2 := 0) (s2 := 0) rfl rfl rfl rfl rfl rfl (Nat.le_of_ble_eq_true rfl) rfl rfl ⟨Nat.le_of_ble_eq_true rfl, Nat.le_of_ble_eq_true rfl⟩ dX2_searchOn_52 55 rfl (ws2 := wM cyI cyZ h w_3) rfl (st2 := [.int x36, .int 3, .int x35, .int 2, .ref (h 3)]) rfl ?_
      refine g_imul C dX2_searchOn_55 56 rfl ?_
      refine g_iadd C dX2_searchOn_56 57 rfl ?_
      obtain ⟨w_39, e38, hf⟩ := bd1_s hf
      refine g_iast C 3 0 rfl rfl (stA_in e38) (st_35 (cyI := cyI) (cyZ := cyZ) (cyJ := cyJ) e38) dX2_searchOn_57 58 rfl ?_
      refine g_aload_n C dX2_searchOn_58 59 rfl 2 rfl ?_
      refine g_iload_n C dX2_searchOn_59 60 rfl 1 rfl ?_
      refine g_iconst C dX2_searchOn_60 61 rfl ic_0 ?_
      refine g_iload_n C dX2_searchOn_61 62 rfl 0 rfl ?_
      refine g_if_eq C dX2_searchOn_62 69 65 (by decide) rfl (fun c40 => ?_) (fun c40 => ?_)
      · have hf := ifp c40 hf
        refine g_iconst C dX2_searchOn_69 70 rfl ic_2 ?_
        obtain ⟨w_41, e42, hf⟩ := bd1_s hf
        refine g_callV1 C (m_X2_let hfl (h := h) e42) cf_X2_let gX2_searchOn_X2_let ⟨Nat.le_of_ble_eq_true rfl, Nat.le_of_ble_eq_true rfl⟩ (q0 := 0) (As := [.int x8, .int 0, .int 2]) (rest := []) (wl := []) (wr := []) (c2 := 0) (s2 := 0) rfl rfl rfl rfl rfl rfl (Nat.le_of_ble_eq_true rfl) rfl rfl ⟨Nat.le_of_ble_eq_true rfl, Nat.le_of_ble_eq_true rfl⟩ dX2_searchOn_70 73 rfl (ws2 := wM cyI cyZ h w_41) rfl (st2 := []) rfl ?_
        refine g_aload_n C dX2_searchOn_73 74 rfl 2 rfl ?_
        refine g_iload_n C dX2_searchOn_74 75 rfl 1 rfl ?_
        refine g_iconst C dX2_searchOn_75 76 rfl ic_3 ?_
        refine g_iconst C dX2_searchOn_76 77 rfl ic_5 ?_
        obtain ⟨w_43, e44, hf⟩ := bd1_s hf
        refine g_callV1 C (m_X2_let hfl (h := h) e44) cf_X2_let gX2_searchOn_X2_let ⟨Nat.le_of_ble_eq_true rfl, Nat.le_of_ble_eq_true rfl⟩ (q0 := 0) (As := [.int x8, .int 3, .int 5]) (rest := []) (wl := []) (wr := []) (c2 := 0) (s2 := 0) rfl rfl rfl rfl rfl rfl (Nat.le_of_ble_eq_true rfl) rfl rfl ⟨Nat.le_of_ble_eq_true rfl, Nat.le_of_ble_eq_true rfl⟩ dX2_searchOn_77 80 rfl (ws2 := wM cyI cyZ h w_43) rfl (st2 := []) rfl ?_
        refine g_aload_n C dX2_searchOn_80 81 rfl 2 rfl ?_
        refine g_iload_n C dX2_searchOn_81 82 rfl 3 rfl ?_
        refine g_iconst C dX2_searchOn_82 83 rfl ic_1 ?_
        refine g_iconst C dX2_searchOn_83 84 rfl ic_m1 ?_
        obtain ⟨w_45, e46, hf⟩ := bd1_s hf
        refine g_callV1 C (m_X2_post hfl (h := h) e46) cf_X2_post gX2_searchOn_X2_post ⟨Nat.le_of_ble_eq_true rfl, Nat.le_of_ble_eq_true rfl⟩ (q0 := 0) (As := [.int a0, .int 1, .int (-1)]) (rest := []) (wl := []) (wr := []) (c2 := 0) (s2 := 0) rfl rfl rfl rfl rfl rfl (Nat.le_of_ble_eq_true rfl) rfl rfl ⟨Nat.le_of_ble_eq_true rfl, Nat.le_of_ble_eq_true rfl⟩ dX2_searchOn_84 87 rfl (ws2 := wM cyI cyZ h w_45) rfl (st2 := []) rfl ?_
        refine g_aload_n C dX2_searchOn_87 88 rfl 2 rfl ?_
        refine g_iload_n C dX2_searchOn_88 89 rfl 3 rfl ?_
        refine g_iconst C dX2_searchOn_89 90 rfl ic_0 ?_
        refine g_iconst C dX2_searchOn_90 91 rfl ic_0 ?_
        refine g_aload_n C dX2_searchOn_91 92 rfl 2 rfl ?_
        refine g_iload_n C dX2_searchOn_92 93 rfl 3 rfl ?_
        refine g_iconst C dX2_searchOn_93 94 rfl ic_0 ?_
        obtain ⟨x47, e48, hf⟩ := bd1_s hf
        refine g_callV1 C (m_X2_gu hfl (h := h) e48) cf_X2_gu gX2_searchOn_X2_gu ⟨Nat.le_of_ble_eq_true rfl, Nat.le_of_ble_eq_true rfl⟩ (q0 := 0) (As := [.int a0, .int 0]) (rest := [.int 0, .int 0, .int a0, .ref (h 0)]) (wl := []) (wr := []) (c2 := 0) (s2 := 0) rfl rfl rfl rfl rfl rfl (Nat.le_of_ble_eq_true rfl) rfl rfl ⟨Nat.le_of_ble_eq_true rfl, Nat.le_of_ble_eq_true rfl⟩ dX2_searchOn_94 97 rfl (ws2 := wM cyI cyZ h w_45) rfl (st2 := [.int x47, .int 0, .int 0, .int a0, .ref (h 0)]) rfl ?_
        refine g_iconst C dX2_searchOn_97 98 rfl ic_1 ?_
        refine g_isub C dX2_searchOn_98 99 rfl ?_
        refine g_mmax C kw0 kw1 kw2 kw3 (Nat.le_of_ble_eq_true rfl) (Nat.le_of_ble_eq_true rfl) (Nat.le_of_ble_eq_true rfl) (Nat.le_of_ble_eq_true rfl) dX2_searchOn_99 102 rfl ?_
        obtain ⟨w_49, e50, hf⟩ := bd1_s hf
        refine g_callV1 C (m_X2_post hfl (h := h) e50) cf_X2_post gX2_searchOn_X2_post ⟨Nat.le_of_ble_eq_true rfl, Nat.le_of_ble_eq_true rfl⟩ (q0 := 0) (As := [.int a0, .int 0, .int (if 0 < (x47 - 1) then (x47 - 1) else 0)]) (rest := []) (wl := []) (wr := []) (c2 := 0) (s2 := 0) rfl rfl rfl rfl rfl rfl (Nat.le_of_ble_eq_true rfl) rfl rfl ⟨Nat.le_of_ble_eq_true rfl, Nat.le_of_ble_eq_true rfl⟩ dX2_searchOn_102 105 rfl (ws2 := wM cyI cyZ h w_49) rfl (st2 := []) rfl ?_
        refine g_Q hQ ?_
        exact g_vret C hr (by cases hf; rfl) (Nat.le_of_ble_eq_true rfl) (Nat.le_of_ble_eq_true rfl) dX2_searchOn_105
      · have hf := ifn c40 hf
        refine g_iconst C dX2_searchOn_65 66 rfl ic_4 ?_
        refine g_goto C dX2_searchOn_66 70 (by decide) ?_
        obtain ⟨w_51, e52, hf⟩ := bd1_s hf
        refine g_callV1 C (m_X2_let hfl (h := h) e52) cf_X2_let gX2_searchOn_X2_let ⟨Nat.le_of_ble_eq_true rfl, Nat.le_of_ble_eq_true rfl⟩ (q0 := 0) (As := [.int x8, .int 0, .int 4]) (rest := []) (wl := []) (wr := []) (c2 := 0) (s2 := 0) rfl rfl rfl rfl rfl rfl (Nat.le_of_ble_eq_true rfl) rfl rfl ⟨Nat.le_of_ble_eq_true rfl, Nat.le_of_ble_eq_true rfl⟩ dX2_searchOn_70 73 rfl (ws2 := wM cyI cyZ h w_51) rfl (st2 := []) rfl ?_
        refine g_aload_n C dX2_searchOn_73 74 rfl 2 rfl ?_
        refine g_iload_n C dX2_searchOn_74 75 rfl 1 rfl ?_
        refine g_iconst C dX2_searchOn_75 76 rfl ic_3 ?_
        refine g_iconst C dX2_searchOn_76 77 rfl ic_5 ?_
        obtain ⟨w_53, e54, hf⟩ := bd1_s hf
        refine g_callV1 C (m_X2_let hfl (h := h) e54) cf_X2_let gX2_searchOn_X2_let ⟨Nat.le_of_ble_eq_true rfl, Nat.le_of_ble_eq_true rfl⟩ (q0 := 0) (As := [.int x8, .int 3, .int 5]) (rest := []) (wl := []) (wr := []) (c2 := 0) (s2 := 0) rfl rfl rfl rfl rfl rfl (Nat.le_of_ble_eq_true rfl) rfl rfl ⟨Nat.le_of_ble_eq_true rfl, Nat.le_of_ble_eq_true rfl⟩ dX2_searchOn_77 80 rfl (ws2 := wM cyI cyZ h w_53) rfl (st2 := []) rfl ?_
        refine g_aload_n C dX2_searchOn_80 81 rfl 2 rfl ?_
        refine g_iload_n C dX2_searchOn_81 82 rfl 3 rfl ?_
        refine g_iconst C dX2_searchOn_82 83 rfl ic_1 ?_
        refine g_iconst C dX2_searchOn_83 84 rfl ic_m1 ?_
        obtain ⟨w_55, e56, hf⟩ := bd1_s hf
        refine g_callV1 C (m_X2_post hfl (h := h) e56) cf_X2_post gX2_searchOn_X2_post ⟨Nat.le_of_ble_eq_true rfl, Nat.le_of_ble_eq_true rfl⟩ (q0 := 0) (As := [.int a0, .int 1, .int (-1)]) (rest := []) (wl := []) (wr := []) (c2 := 0) (s2 := 0) rfl rfl rfl rfl rfl rfl (Nat.le_of_ble_eq_true rfl) rfl rfl ⟨Nat.le_of_ble_eq_true rfl, Nat.le_of_ble_eq_true rfl⟩ dX2_searchOn_84 87 rfl (ws2 := wM cyI cyZ h w_55) rfl (st2 := []) rfl ?_
        refine g_aload_n C dX2_searchOn_87 88 rfl 2 rfl ?_
        refine g_iload_n C dX2_searchOn_88 89 rfl 3 rfl ?_
        refine g_iconst C dX2_searchOn_89 90 rfl ic_0 ?_
        refine g_iconst C dX2_searchOn_90 91 rfl ic_0 ?_
        refine g_aload_n C dX2_searchOn_91 92 rfl 2 rfl ?_
        refine g_iload_n C dX2_searchOn_92 93 rfl 3 rfl ?_
        refine g_iconst C dX2_searchOn_93 94 rfl ic_0 ?_
        obtain ⟨x57, e58, hf⟩ := bd1_s hf
        refine g_callV1 C (m_X2_gu hfl (h := h) e58) cf_X2_gu gX2_searchOn_X2_gu ⟨Nat.le_of_ble_eq_true rfl, Nat.le_of_ble_eq_true rfl⟩ (q0 := 0) (As := [.int a0, .int 0]) (rest := [.int 0, .int 0, .int a0, .ref (h 0)]) (wl := []) (wr := []) (c2 := 0) (s2 := 0) rfl rfl rfl rfl rfl rfl (Nat.le_of_ble_eq_true rfl) rfl rfl ⟨Nat.le_of_ble_eq_true rfl, Nat.le_of_ble_eq_true rfl⟩ dX2_searchOn_94 97 rfl (ws2 := wM cyI cyZ h w_55) rfl (st2 := [.int x57, .int 0, .int 0, .int a0, .ref (h 0)]) rfl ?_
        refine g_iconst C dX2_searchOn_97 98 rfl ic_1 ?_
        refine g_isub C dX2_searchOn_98 99 rfl ?_
        refine g_mmax C kw0 kw1 kw2 kw3 (Nat.le_of_ble_eq_true rfl) (Nat.le_of_ble_eq_true rfl) (Nat.le_of_ble_eq_true rfl) (Nat.le_of_ble_eq_true rfl) dX2_searchOn_99 102 rfl ?_
        obtain ⟨w_59, e60, hf⟩ := bd1_s hf
        refine g_callV1 C (m_X2_post hfl (h := h) e60) cf_X2_post gX2_searchOn_X2_post ⟨Nat.le_of_ble_eq_true rfl, Nat.le_of_ble_eq_true rfl⟩ (q0 := 0) (As := [.int a0, .int 0, .int (if 0 < (x57 - 1) then (x57 - 1) else 0)]) (rest := []) (wl := []) (wr := []) (c2 := 0) (s2 := 0) rfl rfl rfl rfl rfl rfl (Nat.le_of_ble_eq_true rfl) rfl rfl ⟨Nat.le_of_ble_eq_true rfl, Nat.le_of_ble_eq_true rfl⟩ dX2_searchOn_102 105 rfl (ws2 := wM cyI cyZ h w_59) rfl (st2 := []) rfl ?_
        refine g_Q hQ ?_
        exact g_vret C hr (by cases hf; rfl) (Nat.le_of_ble_eq_true rfl) (Nat.le_of_ble_eq_true rfl) dX2_searchOn_105
  · have hf := ifn c7 hf
    refine g_Q hQ ?_
    exact g_vret C hr (by cases hf; rfl) (Nat.le_of_ble_eq_true rfl) (Nat.le_of_ble_eq_true rfl) dX2_searchOn_23
abbrev rm_X2_begin : Room := { frames := 3, cells := 0, slots := 0, locals := 65 }
theorem cf_X2_begin : CF yX2_begin wsX2_begin rm_X2_begin cX2_begin 3 none 1 0 0 RX2 := ⟨⟨_, rfl⟩, rfl, rfl, rfl, by decide, by decide, by decide +kernel⟩
set_option maxHeartbeats 4000000 in
set_option maxRecDepth 100000 in
theorem m_X2_begin {l : Launch} (hfl : l.stackTraces = false) {D : va_G} {cyI cyZ cyJ : ClassId} {h : Nat → Nat} {w : S2} {a0 : Int32} {rw : S2} (hf : X2_begin w a0 = some rw) : Ct ev_s l yX2_begin wsX2_begin rm_X2_begin D (ty3 cyI cyZ cyJ) [.ref (h 0), .int a0] (wM cyI cyZ h w) (fun o => o = .inr (none, wM cyI cyZ h rw)) 0 0 := by
  refine ct_of (cc := cX2_begin) (nL := 3) (own := RX2) (ret := none) hfl (by decide) rfl rfl (Nat.le_of_ble_eq_true rfl) (fun p e s m args below meth c A C hr hnm => ?_)
  refine g_setQ (fun Q hQ => ?_)
  have kw0 := Cx.w C (.methodLink RX2 77 Lib.Math.min.name) (by decide +kernel)
  have kw1 := Cx.w C (.static Lib.Math.min.name) (by decide +kernel)
  have kw2 := Cx.w C (.initialized "java/lang/Math") (by decide +kernel)
  have kw3 := Cx.w C (.code Lib.Math.min.name Lib.Math.min.code 2 (some .int)) (by decide +kernel)
  unfold X2_begin at hf
  refine g_lve (lv' := [(0, .ref (h 0)), (1, .int a0)]) rfl ?_
  refine g_aload_n C dX2_begin_0 1 rfl 0 rfl ?_
  obtain ⟨x1, e2, hf⟩ := bd1_s hf
  refine g_callV1 C (m_X2_first hfl (h := h) e2) cf_X2_first gX2_begin_X2_first ⟨Nat.le_of_ble_eq_true rfl, Nat.le_of_ble_eq_true rfl⟩ (q0 := 0) (As := []) (rest := []) (wl := []) (wr := []) (c2 := 0) (s2 := 0) rfl rfl rfl rfl rfl rfl (Nat.le_of_ble_eq_true rfl) rfl rfl ⟨Nat.le_of_ble_eq_true rfl, Nat.le_of_ble_eq_true rfl⟩ dX2_begin_1 4 rfl (ws2 := wM cyI cyZ h w) rfl (st2 := [.int x1]) rfl ?_
  refine g_istore_n C dX2_begin_4 5 rfl (by decide) (lv' := [(2, .int x1), (0, .ref (h 0)), (1, .int a0)]) rfl ?_
  refine g_iload_n C dX2_begin_5 6 rfl 0 rfl ?_
  refine g_iconst C dX2_begin_6 7 rfl ic_m1 ?_
  refine g_icmp_ne C dX2_begin_7 30 10 (by decide) rfl (fun c3 => ?_) (fun c3 => ?_)
  · have hf := ifn c3 hf
    refine g_aload_n C dX2_begin_30 31 rfl 1 rfl ?_
    refine g_iload_n C dX2_begin_31 32 rfl 2 rfl ?_
    refine g_iconst C dX2_begin_32 33 rfl ic_1 ?_
    refine g_iload_n C dX2_begin_33 34 rfl 0 rfl ?_
    obtain ⟨w_4, e5, hf⟩ := bd1_s hf
    refine g_callV1 C (m_X2_post hfl (h := h) e5) cf_X2_post gX2_begin_X2_post ⟨Nat.le_of_ble_eq_true rfl, Nat.le_of_ble_eq_true rfl⟩ (q0 := 0) (As := [.int a0, .int 1, .int x1]) (rest := []) (wl := []) (wr := []) (c2 := 0) (s2 := 0) rfl rfl rfl rfl rfl rfl (Nat.le_of_ble_eq_true rfl) rfl rfl ⟨Nat.le_of_ble_eq_true rfl, Nat.le_of_ble_eq_true rfl⟩ dX2_begin_34 37 rfl (ws2 := wM cyI cyZ h w_4) rfl (st2 := []) rfl ?_
    refine g_aload_n C dX2_begin_37 38 rfl 1 rfl ?_
    refine g_iload_n C dX2_begin_38 39 rfl 2 rfl ?_
    refine g_iconst C dX2_begin_39 40 rfl ic_2 ?_
    refine g_aload_n C dX2_begin_40 41 rfl 1 rfl ?_
    refine g_iload_n C dX2_begin_41 42 rfl 0 rfl ?_
    obtain ⟨x6, e7, hf⟩ := bd1_s hf
    refine g_callV1 C (m_X2_takes hfl (h := h) e7) cf_X2_takes gX2_begin_X2_takes ⟨Nat.le_of_ble_eq_true rfl, Nat.le_of_ble_eq_true rfl⟩ (q0 := 0) (As := [.int x1]) (rest := [.int 2, .int a0, .ref (h 0)]) (wl := []) (wr := []) (c2 := 0) (s2 := 0) rfl rfl rfl rfl rfl rfl (Nat.le_of_ble_eq_true rfl) rfl rfl ⟨Nat.le_of_ble_eq_true rfl, Nat.le_of_ble_eq_true rfl⟩ dX2_begin_42 45 rfl (ws2 := wM cyI cyZ h w_4) rfl (st2 := [.int x6, .int 2, .int a0, .ref (h 0)]) rfl ?_
    obtain ⟨w_8, e9, hf⟩ := bd1_s hf
    refine g_callV1 C (m_X2_post hfl (h := h) e9) cf_X2_post gX2_begin_X2_post ⟨Nat.le_of_ble_eq_true rfl, Nat.le_of_ble_eq_true rfl⟩ (q0 := 0) (As := [.int a0, .int 2, .int x6]) (rest := []) (wl := []) (wr := []) (c2 := 0) (s2 := 0) rfl rfl rfl rfl rfl rfl (Nat.le_of_ble_eq_true rfl) rfl rfl ⟨Nat.le_of_ble_eq_true rfl, Nat.le_of_ble_eq_true rfl⟩ dX2_begin_45 48 rfl (ws2 := wM cyI cyZ h w_8) rfl (st2 := []) rfl ?_
    refine g_aload_n C dX2_begin_48 49 rfl 1 rfl ?_
    refine g_iload_n C dX2_begin_49 50 rfl 0 rfl ?_
    refine g_iconst C dX2_begin_50 51 rfl ic_0 ?_
    refine g_iconst C dX2_begin_51 52 rfl ic_1 ?_
    obtain ⟨w_10, e11, hf⟩ := bd1_s hf
    refine g_callV1 C (m_X2_let hfl (h := h) e11) cf_X2_let gX2_begin_X2_let ⟨Nat.le_of_ble_eq_true rfl, Nat.le_of_ble_eq_true rfl⟩ (q0 := 0) (As := [.int x1, .int 0, .int 1]) (rest := []) (wl := []) (wr := []) (c2 := 0) (s2 := 0) rfl rfl rfl rfl rfl rfl (Nat.le_of_ble_eq_true rfl) rfl rfl ⟨Nat.le_of_ble_eq_true rfl, Nat.le_of_ble_eq_true rfl⟩ dX2_begin_52 55 rfl (ws2 := wM cyI cyZ h w_10) rfl (st2 := []) rfl ?_
    refine g_Q hQ ?_
    exact g_vret C hr (by cases hf; rfl) (Nat.le_of_ble_eq_true rfl) (Nat.le_of_ble_eq_true rfl) dX2_begin_55
  · have hf := ifp c3 hf
    refine g_aload_n C dX2_begin_10 11 rfl 1 rfl ?_
    refine g_iload_n C dX2_begin_11 12 rfl 2 rfl ?_
    refine g_iconst C dX2_begin_12 13 rfl ic_0 ?_
    refine g_bipush C dX2_begin_13 15 rfl bp_9 ?_
    refine g_aload_n C dX2_begin_15 16 rfl 1 rfl ?_
    refine g_iload_n C dX2_begin_16 17 rfl 2 rfl ?_
    refine g_iconst C dX2_begin_17 18 rfl ic_0 ?_
    obtain ⟨x12, e13, hf⟩ := bd1_s hf
    refine g_callV1 C (m_X2_gu hfl (h := h) e13) cf_X2_gu gX2_begin_X2_gu ⟨Nat.le_of_ble_eq_true rfl, Nat.le_of_ble_eq_true rfl⟩ (q0 := 0) (As := [.int a0, .int 0]) (rest := [.int 9, .int 0, .int a0, .ref (h 0)]) (wl := []) (wr := []) (c2 := 0) (s2 := 0) rfl rfl rfl rfl rfl rfl (Nat.le_of_ble_eq_true rfl) rfl rfl ⟨Nat.le_of_ble_eq_true rfl, Nat.le_of_ble_eq_true rfl⟩ dX2_begin_18 21 rfl (ws2 := wM cyI cyZ h w) rfl (st2 := [.int x12, .int 9, .int 0, .int a0, .ref (h 0)]) rfl ?_
    refine g_iconst C dX2_begin_21 22 rfl ic_1 ?_
    refine g_iadd C dX2_begin_22 23 rfl ?_
    refine g_mmin C kw0 kw1 kw2 kw3 (Nat.le_of_ble_eq_true rfl) (Nat.le_of_ble_eq_true rfl) (Nat.le_of_ble_eq_true rfl) (Nat.le_of_ble_eq_true rfl) dX2_begin_23 26 rfl ?_
    obtain ⟨w_14, e15, hf⟩ := bd1_s hf
    refine g_callV1 C (m_X2_post hfl (h := h) e15) cf_X2_post gX2_begin_X2_post ⟨Nat.le_of_ble_eq_true rfl, Nat.le_of_ble_eq_true rfl⟩ (q0 := 0) (As := [.int a0, .int 0, .int (if (x12 + 1) < 9 then (x12 + 1) else 9)]) (rest := []) (wl := []) (wr := []) (c2 := 0) (s2 := 0) rfl rfl rfl rfl rfl rfl (Nat.le_of_ble_eq_true rfl) rfl rfl ⟨Nat.le_of_ble_eq_true rfl, Nat.le_of_ble_eq_true rfl⟩ dX2_begin_26 29 rfl (ws2 := wM cyI cyZ h w_14) rfl (st2 := []) rfl ?_
    refine g_Q hQ ?_
    exact g_vret C hr (by cases hf; rfl) (Nat.le_of_ble_eq_true rfl) (Nat.le_of_ble_eq_true rfl) dX2_begin_29
abbrev rm_X2_minuteOn : Room := { frames := 4, cells := 0, slots := 0, locals := 88 }
theorem cf_X2_minuteOn : CF yX2_minuteOn wsX2_minuteOn rm_X2_minuteOn cX2_minuteOn 2 none 0 0 0 RX2 := ⟨⟨_, rfl⟩, rfl, rfl, rfl, by decide, by decide, by decide +kernel⟩
set_option maxHeartbeats 4000000 in
set_option maxRecDepth 100000 in
theorem m_X2_minuteOn {l : Launch} (hfl : l.stackTraces = false) {D : va_G} {cyI cyZ cyJ : ClassId} {h : Nat → Nat} {w : S2} {rw : S2} (hf : X2_minuteOn w = some rw) : Ct ev_s l yX2_minuteOn wsX2_minuteOn rm_X2_minuteOn D (ty3 cyI cyZ cyJ) [.ref (h 0)] (wM cyI cyZ h w) (fun o => o = .inr (none, wM cyI cyZ h rw)) 0 0 := by
  refine ct_of (cc := cX2_minuteOn) (nL := 2) (own := RX2) (ret := none) hfl (by decide) rfl rfl (Nat.le_of_ble_eq_true rfl) (fun p e s m args below meth c A C hr hnm => ?_)
  refine g_setQ (fun Q hQ => ?_)
  have kw0 := Cx.w C (.fieldLink RX2 16 "SleepBorderModel" "now" "[I") (by decide +kernel)
  have iX2 : ∀ w ∈ u_ws RX2 TX2 7, w ∈ wsX2_minuteOn := by decide +kernel
  have kw2 := Cx.w C (.fieldLink RX2 30 "SleepBorderModel" "travellers" "I") (by decide +kernel)
  have kw3 := Cx.w C (.fieldLink RX2 22 "SleepBorderModel" "free" "[Z") (by decide +kernel)
  have L83 : ∀ (n : Nat) (l1 : Int32) (w : S2), X2_minuteOn_L83 n l1 w = some rw → Gq p l e rm_X2_minuteOn s m args below meth c D A 2 Q (wM cyI cyZ h w) 0 0 83 [(0, .ref (h 0)), (1, .int l1)] [] := by
    intro n
    induction n with
    | zero => intro l1 w hf; simp [X2_minuteOn_L83] at hf
    | succ n ih =>
      intro l1 w hf
      rw [X2_minuteOn_L83] at hf
      refine g_iload_n C dX2_minuteOn_83 84 rfl 1 rfl ?_
      refine g_aload_n C dX2_minuteOn_84 85 rfl 0 rfl ?_
      refine g_get C iX2 0 rfl rfl 4 (by decide) kw0 rfl rfl dX2_minuteOn_85 88 rfl ?_
      refine g_iconst C dX2_minuteOn_88 89 rfl ic_3 ?_
      obtain ⟨x7, e6, hf⟩ := bd1_s hf
      refine g_iald C 3 0 rfl rfl e6 dX2_minuteOn_89 90 rfl ?_
      refine g_icmp_ge C dX2_minuteOn_90 121 93 (by decide) rfl (fun c8 => ?_) (fun c8 => ?_)
      · have hf := ifp c8 hf
        refine g_aload_n C dX2_minuteOn_121 122 rfl 0 rfl ?_
        refine g_get C iX2 0 rfl rfl 4 (by decide) kw0 rfl rfl dX2_minuteOn_122 125 rfl ?_
        refine g_iconst C dX2_minuteOn_125 126 rfl ic_0 ?_
        refine g_dup2 C dX2_minuteOn_126 127 rfl rfl rfl ?_
        obtain ⟨x10, e9, hf⟩ := bd1_s hf
        refine g_iald C 3 0 rfl rfl e9 dX2_minuteOn_127 128 rfl ?_
        refine g_iconst C dX2_minuteOn_128 129 rfl ic_1 ?_
        refine g_iadd C dX2_minuteOn_129 130 rfl ?_
        obtain ⟨w_12, e11, hf⟩ := bd1_s hf
        refine g_iast C 3 0 rfl rfl (stA_in e11) (st_35 (cyI := cyI) (cyZ := cyZ) (cyJ := cyJ) e11) dX2_minuteOn_130 131 rfl ?_
        refine g_Q hQ ?_
        exact g_vret C hr (by cases hf; rfl) (Nat.le_of_ble_eq_true rfl) (Nat.le_of_ble_eq_true rfl) dX2_minuteOn_131
      · have hf := ifn c8 hf
        refine g_aload_n C dX2_minuteOn_93 94 rfl 0 rfl ?_
        refine g_get C iX2 0 rfl rfl 6 (by decide) kw3 rfl rfl dX2_minuteOn_94 97 rfl ?_
        refine g_iload_n C dX2_minuteOn_97 98 rfl 1 rfl ?_
        obtain ⟨x14, e13, hf⟩ := bd1_s hf
        refine g_zald C 5 1 rfl rfl e13 dX2_minuteOn_98 99 rfl ?_
        refine g_if_eq C dX2_minuteOn_99 110 102 (by decide) rfl (fun c15 => ?_) (fun c15 => ?_)
        · have hf := ifp c15 hf
          refine g_aload_n C dX2_minuteOn_110 111 rfl 0 rfl ?_
          refine g_iload_n C dX2_minuteOn_111 112 rfl 1 rfl ?_
          obtain ⟨w_16, e17, hf⟩ := bd1_s hf
          refine g_callV1 C (m_X2_searchOn hfl (h := h) e17) cf_X2_searchOn gX2_minuteOn_X2_searchOn ⟨Nat.le_of_ble_eq_true rfl, Nat.le_of_ble_eq_true rfl⟩ (q0 := 0) (As := [.int l1]) (rest := []) (wl := []) (wr := []) (c2 := 0) (s2 := 0) rfl rfl rfl rfl rfl rfl (Nat.le_of_ble_eq_true rfl) rfl rfl ⟨Nat.le_of_ble_eq_true rfl, Nat.le_of_ble_eq_true rfl⟩ dX2_minuteOn_112 115 rfl (ws2 := wM cyI cyZ h w_16) rfl (st2 := []) rfl ?_
          refine g_iinc C dX2_minuteOn_115 118 rfl 1 rfl (ii_1 _) (by decide) (lv' := [(1, .int (l1 + 1)), (0, .ref (h 0))]) rfl ?_
          refine g_goto C dX2_minuteOn_118 83 (by decide) ?_
          refine g_lv [1, 0] (lv' := [(0, .ref (h 0)), (1, .int (l1 + 1))]) rfl ?_
          exact ih (l1 + 1) w_16 hf
        · have hf := ifn c15 hf
          refine g_aload_n C dX2_minuteOn_102 103 rfl 0 rfl ?_
          refine g_iload_n C dX2_minuteOn_103 104 rfl 1 rfl ?_
          obtain ⟨w_18, e19, hf⟩ := bd1_s hf
          refine g_callV1 C (m_X2_begin hfl (h := h) e19) cf_X2_begin gX2_minuteOn_X2_begin ⟨Nat.le_of_ble_eq_true rfl, Nat.le_of_ble_eq_true rfl⟩ (q0 := 0) (As := [.int l1]) (rest := []) (wl := []) (wr := []) (c2 := 0) (s2 := 0) rfl rfl rfl rfl rfl rfl (Nat.le_of_ble_eq_true rfl) rfl rfl ⟨Nat.le_of_ble_eq_true rfl, Nat.le_of_ble_eq_true rfl⟩ dX2_minuteOn_104 107 rfl (ws2 := wM cyI cyZ h w_18) rfl (st2 := []) rfl ?_
          refine g_goto C dX2_minuteOn_107 115 (by decide) ?_
          refine g_iinc C dX2_minuteOn_115 118 rfl 1 rfl (ii_1 _) (by decide) (lv' := [(1, .int (l1 + 1)), (0, .ref (h 0))]) rfl ?_
          refine g_goto C dX2_minuteOn_118 83 (by decide) ?_
          refine g_lv [1, 0] (lv' := [(0, .ref (h 0)), (1, .int (l1 + 1))]) rfl ?_
          exact ih (l1 + 1) w_18 hf
  have L62 : ∀ (n : Nat) (l1 : Int32) (w : S2), X2_minuteOn_L62 n l1 w = some rw → Gq p l e rm_X2_minuteOn s m args below meth c D A 2 Q (wM cyI cyZ h w) 0 0 62 [(0, .ref (h 0)), (1, .int l1)] [] := by
    intro n
    induction n with
    | zero => intro l1 w hf; simp [X2_minuteOn_L62] at hf
    | succ n ih =>
      intro l1 w hf
      rw [X2_minuteOn_L62] at hf
      refine g_iload_n C dX2_minuteOn_62 63 rfl 1 rfl ?_
      refine g_aload_n C dX2_minuteOn_63 64 rfl 0 rfl ?_
      refine g_get C iX2 0 rfl rfl 1 (by decide) kw2 rfl rfl dX2_minuteOn_64 67 rfl ?_
      refine g_icmp_ge C dX2_minuteOn_67 81 70 (by decide) rfl (fun c5 => ?_) (fun c5 => ?_)
      · have hf := ifp c5 hf
        refine g_iconst C dX2_minuteOn_81 82 rfl ic_0 ?_
        refine g_istore_n C dX2_minuteOn_82 83 rfl (by decide) (lv' := [(1, .int 0), (0, .ref (h 0))]) rfl ?_
        refine g_lv [1, 0] (lv' := [(0, .ref (h 0)), (1, .int 0)]) rfl ?_
        exact L83 200 0 w hf
      · have hf := ifn c5 hf
        refine g_aload_n C dX2_minuteOn_70 71 rfl 0 rfl ?_
        refine g_iload_n C dX2_minuteOn_71 72 rfl 1 rfl ?_
        obtain ⟨w_20, e21, hf⟩ := bd1_s hf
        refine g_callV1 C (m_X2_listen hfl (h := h) e21) cf_X2_listen gX2_minuteOn_X2_listen ⟨Nat.le_of_ble_eq_true rfl, Nat.le_of_ble_eq_true rfl⟩ (q0 := 0) (As := [.int l1]) (rest := []) (wl := []) (wr := []) (c2 := 0) (s2 := 0) rfl rfl rfl rfl rfl rfl (Nat.le_of_ble_eq_true rfl) rfl rfl ⟨Nat.le_of_ble_eq_true rfl, Nat.le_of_ble_eq_true rfl⟩ dX2_minuteOn_72 75 rfl (ws2 := wM cyI cyZ h w_20) rfl (st2 := []) rfl ?_
        refine g_iinc C dX2_minuteOn_75 78 rfl 1 rfl (ii_1 _) (by decide) (lv' := [(1, .int (l1 + 1)), (0, .ref (h 0))]) rfl ?_
        refine g_goto C dX2_minuteOn_78 62 (by decide) ?_
        refine g_lv [1, 0] (lv' := [(0, .ref (h 0)), (1, .int (l1 + 1))]) rfl ?_
        exact ih (l1 + 1) w_20 hf
  have L41 : ∀ (n : Nat) (l1 : Int32) (w : S2), X2_minuteOn_L41 n l1 w = some rw → Gq p l e rm_X2_minuteOn s m args below meth c D A 2 Q (wM cyI cyZ h w) 0 0 41 [(0, .ref (h 0)), (1, .int l1)] [] := by
    intro n
    induction n with
    | zero => intro l1 w hf; simp [X2_minuteOn_L41] at hf
    | succ n ih =>
      intro l1 w hf
      rw [X2_minuteOn_L41] at hf
      refine g_iload_n C dX2_minuteOn_41 42 rfl 1 rfl ?_
      refine g_aload_n C dX2_minuteOn_42 43 rfl 0 rfl ?_
      refine g_get C iX2 0 rfl rfl 1 (by decide) kw2 rfl rfl dX2_minuteOn_43 46 rfl ?_
      refine g_icmp_ge C dX2_minuteOn_46 60 49 (by decide) rfl (fun c4 => ?_) (fun c4 => ?_)
      · have hf := ifp c4 hf
        refine g_iconst C dX2_minuteOn_60 61 rfl ic_0 ?_
        refine g_istore_n C dX2_minuteOn_61 62 rfl (by decide) (lv' := [(1, .int 0), (0, .ref (h 0))]) rfl ?_
        refine g_lv [1, 0] (lv' := [(0, .ref (h 0)), (1, .int 0)]) rfl ?_
        exact L62 200 0 w hf
      · have hf := ifn c4 hf
        refine g_aload_n C dX2_minuteOn_49 50 rfl 0 rfl ?_
        refine g_iload_n C dX2_minuteOn_50 51 rfl 1 rfl ?_
        obtain ⟨w_22, e23, hf⟩ := bd1_s hf
        refine g_callV1 C (m_X2_travel hfl (h := h) e23) cf_X2_travel gX2_minuteOn_X2_travel ⟨Nat.le_of_ble_eq_true rfl, Nat.le_of_ble_eq_true rfl⟩ (q0 := 0) (As := [.int l1]) (rest := []) (wl := []) (wr := []) (c2 := 0) (s2 := 0) rfl rfl rfl rfl rfl rfl (Nat.le_of_ble_eq_true rfl) rfl rfl ⟨Nat.le_of_ble_eq_true rfl, Nat.le_of_ble_eq_true rfl⟩ dX2_minuteOn_51 54 rfl (ws2 := wM cyI cyZ h w_22) rfl (st2 := []) rfl ?_
        refine g_iinc C dX2_minuteOn_54 57 rfl 1 rfl (ii_1 _) (by decide) (lv' := [(1, .int (l1 + 1)), (0, .ref (h 0))]) rfl ?_
        refine g_goto C dX2_minuteOn_57 41 (by decide) ?_
        refine g_lv [1, 0] (lv' := [(0, .ref (h 0)), (1, .int (l1 + 1))]) rfl ?_
        exact ih (l1 + 1) w_22 hf
  have L2 : ∀ (n : Nat) (l1 : Int32) (w : S2), X2_minuteOn_L2 n l1 w = some rw → Gq p l e rm_X2_minuteOn s m args below meth c D A 2 Q (wM cyI cyZ h w) 0 0 2 [(0, .ref (h 0)), (1, .int l1)] [] := by
    intro n
    induction n with
    | zero => intro l1 w hf; simp [X2_minuteOn_L2] at hf
    | succ n ih =>
      intro l1 w hf
      rw [X2_minuteOn_L2] at hf
      refine g_iload_n C dX2_minuteOn_2 3 rfl 1 rfl ?_
      refine g_aload_n C dX2_minuteOn_3 4 rfl 0 rfl ?_
      refine g_get C iX2 0 rfl rfl 4 (by decide) kw0 rfl rfl dX2_minuteOn_4 7 rfl ?_
      refine g_iconst C dX2_minuteOn_7 8 rfl ic_3 ?_
      obtain ⟨x2, e1, hf⟩ := bd1_s hf
      refine g_iald C 3 0 rfl rfl e1 dX2_minuteOn_8 9 rfl ?_
      refine g_icmp_ge C dX2_minuteOn_9 39 12 (by decide) rfl (fun c3 => ?_) (fun c3 => ?_)
      · have hf := ifp c3 hf
        refine g_iconst C dX2_minuteOn_39 40 rfl ic_0 ?_
        refine g_istore_n C dX2_minuteOn_40 41 rfl (by decide) (lv' := [(1, .int 0), (0, .ref (h 0))]) rfl ?_
        refine g_lv [1, 0] (lv' := [(0, .ref (h 0)), (1, .int 0)]) rfl ?_
        exact L41 200 0 w hf
      · have hf := ifn c3 hf
        refine g_aload_n C dX2_minuteOn_12 13 rfl 0 rfl ?_
        refine g_get C iX2 0 rfl rfl 6 (by decide) kw3 rfl rfl dX2_minuteOn_13 16 rfl ?_
        refine g_iload_n C dX2_minuteOn_16 17 rfl 1 rfl ?_
        refine g_aload_n C dX2_minuteOn_17 18 rfl 0 rfl ?_
        refine g_iload_n C dX2_minuteOn_18 19 rfl 1 rfl ?_
        refine g_iconst C dX2_minuteOn_19 20 rfl ic_1 ?_
        obtain ⟨x24, e25, hf⟩ := bd1_s hf
        refine g_callV1 C (m_X2_gu hfl (h := h) e25) cf_X2_gu gX2_minuteOn_X2_gu ⟨Nat.le_of_ble_eq_true rfl, Nat.le_of_ble_eq_true rfl⟩ (q0 := 0) (As := [.int l1, .int 1]) (rest := [.int l1, .ref (h 5)]) (wl := []) (wr := []) (c2 := 0) (s2 := 0) rfl rfl rfl rfl rfl rfl (Nat.le_of_ble_eq_true rfl) rfl rfl ⟨Nat.le_of_ble_eq_true rfl, Nat.le_of_ble_eq_true rfl⟩ dX2_minuteOn_20 23 rfl (ws2 := wM cyI cyZ h w) rfl (st2 := [.int x24, .int l1, .ref (h 5)]) rfl ?_
        refine g_iconst C dX2_minuteOn_23 24 rfl ic_m1 ?_
        refine g_icmp_ne C dX2_minuteOn_24 31 27 (by decide) rfl (fun c26 => ?_) (fun c26 => ?_)
        · have hf := ifn c26 hf
          refine g_iconst C dX2_minuteOn_31 32 rfl ic_0 ?_
          obtain ⟨_, e28, hf⟩ := bd1_s hf
          obtain ⟨w_29, e27, hf⟩ := bd1_s hf
          refine g_zast C 5 1 rfl rfl (stA_in e27) (bl_n e28) (st_38 (cyI := cyI) (cyZ := cyZ) (cyJ := cyJ) e27) dX2_minuteOn_32 33 rfl ?_
          refine g_iinc C dX2_minuteOn_33 36 rfl 1 rfl (ii_1 _) (by decide) (lv' := [(1, .int (l1 + 1)), (0, .ref (h 0))]) rfl ?_
          refine g_goto C dX2_minuteOn_36 2 (by decide) ?_
          refine g_lv [1, 0] (lv' := [(0, .ref (h 0)), (1, .int (l1 + 1))]) rfl ?_
          exact ih (l1 + 1) w_29 hf
        · have hf := ifp c26 hf
          refine g_iconst C dX2_minuteOn_27 28 rfl ic_1 ?_
          refine g_goto C dX2_minuteOn_28 32 (by decide) ?_
          obtain ⟨_, e31, hf⟩ := bd1_s hf
          obtain ⟨w_32, e30, hf⟩ := bd1_s hf
          refine g_zast C 5 1 rfl rfl (stA_in e30) (bl_n e31) (st_38 (cyI := cyI) (cyZ := cyZ) (cyJ := cyJ) e30) dX2_minuteOn_32 33 rfl ?_
          refine g_iinc C dX2_minuteOn_33 36 rfl 1 rfl (ii_1 _) (by decide) (lv' := [(1, .int (l1 + 1)), (0, .ref (h 0))]) rfl ?_
          refine g_goto C dX2_minuteOn_36 2 (by decide) ?_
          refine g_lv [1, 0] (lv' := [(0, .ref (h 0)), (1, .int (l1 + 1))]) rfl ?_
          exact ih (l1 + 1) w_32 hf
  unfold X2_minuteOn at hf
  refine g_lve (lv' := [(0, .ref (h 0))]) rfl ?_
  refine g_iconst C dX2_minuteOn_0 1 rfl ic_0 ?_
  refine g_istore_n C dX2_minuteOn_1 2 rfl (by decide) (lv' := [(1, .int 0), (0, .ref (h 0))]) rfl ?_
  refine g_lv [1, 0] (lv' := [(0, .ref (h 0)), (1, .int 0)]) rfl ?_
  exact L2 200 0 w hf
abbrev rm_X2_minutesOn : Room := { frames := 5, cells := 0, slots := 0, locals := 109 }
theorem cf_X2_minutesOn : CF yX2_minutesOn wsX2_minutesOn rm_X2_minutesOn cX2_minutesOn 3 none 1 0 0 RX2 := ⟨⟨_, rfl⟩, rfl, rfl, rfl, by decide, by decide, by decide +kernel⟩
set_option maxHeartbeats 4000000 in
set_option maxRecDepth 100000 in
theorem m_X2_minutesOn {l : Launch} (hfl : l.stackTraces = false) {D : va_G} {cyI cyZ cyJ : ClassId} {h : Nat → Nat} {w : S2} {a0 : Int32} {rw : S2} (hf : X2_minutesOn w a0 = some rw) : Ct ev_s l yX2_minutesOn wsX2_minutesOn rm_X2_minutesOn D (ty3 cyI cyZ cyJ) [.ref (h 0), .int a0] (wM cyI cyZ h w) (fun o => o = .inr (none, wM cyI cyZ h rw)) 0 0 := by
  refine ct_of (cc := cX2_minutesOn) (nL := 3) (own := RX2) (ret := none) hfl (by decide) rfl rfl (Nat.le_of_ble_eq_true rfl) (fun p e s m args below meth c A C hr hnm => ?_)
  refine g_setQ (fun Q hQ => ?_)
  have L2 : ∀ (l1 : Int32) (n : Nat) (l2 : Int32) (w : S2), X2_minutesOn_L2 l1 n l2 w = some rw → Gq p l e rm_X2_minutesOn s m args below meth c D A 3 Q (wM cyI cyZ h w) 0 0 2 [(0, .ref (h 0)), (1, .int l1), (2, .int l2)] [] := by
    intro l1 n
    induction n with
    | zero => intro l2 w hf; simp [X2_minutesOn_L2] at hf
    | succ n ih =>
      intro l2 w hf
      rw [X2_minutesOn_L2] at hf
      refine g_iload_n C dX2_minutesOn_2 3 rfl 2 rfl ?_
      refine g_iload_n C dX2_minutesOn_3 4 rfl 1 rfl ?_
      refine g_icmp_ge C dX2_minutesOn_4 17 7 (by decide) rfl (fun c1 => ?_) (fun c1 => ?_)
      · have hf := ifp c1 hf
        refine g_Q hQ ?_
        exact g_vret C hr (by cases hf; rfl) (Nat.le_of_ble_eq_true rfl) (Nat.le_of_ble_eq_true rfl) dX2_minutesOn_17
      · have hf := ifn c1 hf
        refine g_aload_n C dX2_minutesOn_7 8 rfl 0 rfl ?_
        obtain ⟨w_2, e3, hf⟩ := bd1_s hf
        refine g_callV1 C (m_X2_minuteOn hfl (h := h) e3) cf_X2_minuteOn gX2_minutesOn_X2_minuteOn ⟨Nat.le_of_ble_eq_true rfl, Nat.le_of_ble_eq_true rfl⟩ (q0 := 0) (As := []) (rest := []) (wl := []) (wr := []) (c2 := 0) (s2 := 0) rfl rfl rfl rfl rfl rfl (Nat.le_of_ble_eq_true rfl) rfl rfl ⟨Nat.le_of_ble_eq_true rfl, Nat.le_of_ble_eq_true rfl⟩ dX2_minutesOn_8 11 rfl (ws2 := wM cyI cyZ h w_2) rfl (st2 := []) rfl ?_
        refine g_iinc C dX2_minutesOn_11 14 rfl 2 rfl (ii_1 _) (by decide) (lv' := [(2, .int (l2 + 1)), (0, .ref (h 0)), (1, .int l1)]) rfl ?_
        refine g_goto C dX2_minutesOn_14 2 (by decide) ?_
        refine g_lv [1, 2, 0] (lv' := [(0, .ref (h 0)), (1, .int l1), (2, .int (l2 + 1))]) rfl ?_
        exact ih (l2 + 1) w_2 hf
  unfold X2_minutesOn at hf
  refine g_lve (lv' := [(0, .ref (h 0)), (1, .int a0)]) rfl ?_
  refine g_iconst C dX2_minutesOn_0 1 rfl ic_0 ?_
  refine g_istore_n C dX2_minutesOn_1 2 rfl (by decide) (lv' := [(2, .int 0), (0, .ref (h 0)), (1, .int a0)]) rfl ?_
  refine g_lv [1, 2, 0] (lv' := [(0, .ref (h 0)), (1, .int a0), (2, .int 0)]) rfl ?_
  exact L2 a0 200 0 w hf
abbrev rm_X2_hire : Room := { frames := 1, cells := 0, slots := 0, locals := 23 }
theorem cf_X2_hire : CF yX2_hire wsX2_hire rm_X2_hire cX2_hire 2 none 0 0 0 RX2 := ⟨⟨_, rfl⟩, rfl, rfl, rfl, by decide, by decide, by decide +kernel⟩
set_option maxHeartbeats 4000000 in
set_option maxRecDepth 100000 in
theorem m_X2_hire {l : Launch} (hfl : l.stackTraces = false) {D : va_G} {cyI cyZ cyJ : ClassId} {h : Nat → Nat} {w : S2} {rw : S2} (hf : X2_hire w = some rw) : Ct ev_s l yX2_hire wsX2_hire rm_X2_hire D (ty3 cyI cyZ cyJ) [.ref (h 0)] (wM cyI cyZ h w) (fun o => o = .inr (none, wM cyI cyZ h rw)) 0 0 := by
  refine ct_of (cc := cX2_hire) (nL := 2) (own := RX2) (ret := none) hfl (by decide) rfl rfl (Nat.le_of_ble_eq_true rfl) (fun p e s m args below meth c A C hr hnm => ?_)
  refine g_setQ (fun Q hQ => ?_)
  have kw0 := Cx.w C (.fieldLink RX2 16 "SleepBorderModel" "now" "[I") (by decide +kernel)
  have iX2 : ∀ w ∈ u_ws RX2 TX2 7, w ∈ wsX2_hire := by decide +kernel
  unfold X2_hire at hf
  refine g_lve (lv' := [(0, .ref (h 0))]) rfl ?_
  refine g_aload_n C dX2_hire_0 1 rfl 0 rfl ?_
  refine g_get C iX2 0 rfl rfl 4 (by decide) kw0 rfl rfl dX2_hire_1 4 rfl ?_
  refine g_iconst C dX2_hire_4 5 rfl ic_3 ?_
  obtain ⟨x2, e1, hf⟩ := bd1_s hf
  refine g_iald C 3 0 rfl rfl e1 dX2_hire_5 6 rfl ?_
  refine g_istore_n C dX2_hire_6 7 rfl (by decide) (lv' := [(1, .int x2), (0, .ref (h 0))]) rfl ?_
  refine g_aload_n C dX2_hire_7 8 rfl 1 rfl ?_
  refine g_iload_n C dX2_hire_8 9 rfl 0 rfl ?_
  refine g_iconst C dX2_hire_9 10 rfl ic_0 ?_
  refine g_bipush C dX2_hire_10 12 rfl bp_9 ?_
  obtain ⟨w_3, e4, hf⟩ := bd1_s hf
  refine g_callV1 C (m_X2_post hfl (h := h) e4) cf_X2_post gX2_hire_X2_post ⟨Nat.le_of_ble_eq_true rfl, Nat.le_of_ble_eq_true rfl⟩ (q0 := 0) (As := [.int x2, .int 0, .int 9]) (rest := []) (wl := []) (wr := []) (c2 := 0) (s2 := 0) rfl rfl rfl rfl rfl rfl (Nat.le_of_ble_eq_true rfl) rfl rfl ⟨Nat.le_of_ble_eq_true rfl, Nat.le_of_ble_eq_true rfl⟩ dX2_hire_12 15 rfl (ws2 := wM cyI cyZ h w_3) rfl (st2 := []) rfl ?_
  refine g_aload_n C dX2_hire_15 16 rfl 1 rfl ?_
  refine g_iload_n C dX2_hire_16 17 rfl 0 rfl ?_
  refine g_iconst C dX2_hire_17 18 rfl ic_1 ?_
  refine g_iconst C dX2_hire_18 19 rfl ic_m1 ?_
  obtain ⟨w_5, e6, hf⟩ := bd1_s hf
  refine g_callV1 C (m_X2_post hfl (h := h) e6) cf_X2_post gX2_hire_X2_post ⟨Nat.le_of_ble_eq_true rfl, Nat.le_of_ble_eq_true rfl⟩ (q0 := 0) (As := [.int x2, .int 1, .int (-1)]) (rest := []) (wl := []) (wr := []) (c2 := 0) (s2 := 0) rfl rfl rfl rfl rfl rfl (Nat.le_of_ble_eq_true rfl) rfl rfl ⟨Nat.le_of_ble_eq_true rfl, Nat.le_of_ble_eq_true rfl⟩ dX2_hire_19 22 rfl (ws2 := wM cyI cyZ h w_5) rfl (st2 := []) rfl ?_
  refine g_aload_n C dX2_hire_22 23 rfl 1 rfl ?_
  refine g_iload_n C dX2_hire_23 24 rfl 0 rfl ?_
  refine g_iconst C dX2_hire_24 25 rfl ic_2 ?_
  refine g_iconst C dX2_hire_25 26 rfl ic_0 ?_
  obtain ⟨w_7, e8, hf⟩ := bd1_s hf
  refine g_callV1 C (m_X2_post hfl (h := h) e8) cf_X2_post gX2_hire_X2_post ⟨Nat.le_of_ble_eq_true rfl, Nat.le_of_ble_eq_true rfl⟩ (q0 := 0) (As := [.int x2, .int 2, .int 0]) (rest := []) (wl := []) (wr := []) (c2 := 0) (s2 := 0) rfl rfl rfl rfl rfl rfl (Nat.le_of_ble_eq_true rfl) rfl rfl ⟨Nat.le_of_ble_eq_true rfl, Nat.le_of_ble_eq_true rfl⟩ dX2_hire_26 29 rfl (ws2 := wM cyI cyZ h w_7) rfl (st2 := []) rfl ?_
  refine g_aload_n C dX2_hire_29 30 rfl 1 rfl ?_
  refine g_get C iX2 0 rfl rfl 4 (by decide) kw0 rfl rfl dX2_hire_30 33 rfl ?_
  refine g_iconst C dX2_hire_33 34 rfl ic_3 ?_
  refine g_dup2 C dX2_hire_34 35 rfl rfl rfl ?_
  obtain ⟨x10, e9, hf⟩ := bd1_s hf
  refine g_iald C 3 0 rfl rfl e9 dX2_hire_35 36 rfl ?_
  refine g_iconst C dX2_hire_36 37 rfl ic_1 ?_
  refine g_iadd C dX2_hire_37 38 rfl ?_
  obtain ⟨w_12, e11, hf⟩ := bd1_s hf
  refine g_iast C 3 0 rfl rfl (stA_in e11) (st_35 (cyI := cyI) (cyZ := cyZ) (cyJ := cyJ) e11) dX2_hire_38 39 rfl ?_
  refine g_Q hQ ?_
  exact g_vret C hr (by cases hf; rfl) (Nat.le_of_ble_eq_true rfl) (Nat.le_of_ble_eq_true rfl) dX2_hire_39
abbrev rm_X2_addGuard : Room := { frames := 2, cells := 0, slots := 0, locals := 44 }
theorem cf_X2_addGuard : CF yX2_addGuard wsX2_addGuard rm_X2_addGuard cX2_addGuard 1 (some .int) 0 0 0 RX2 := ⟨⟨_, rfl⟩, rfl, rfl, rfl, by decide, by decide, by decide +kernel⟩
set_option maxHeartbeats 4000000 in
set_option maxRecDepth 100000 in
theorem m_X2_addGuard {l : Launch} (hfl : l.stackTraces = false) {D : va_G} {cyI cyZ cyJ : ClassId} {h : Nat → Nat} {w : S2} {rx : Int32} {rw : S2} (hf : X2_addGuard w = some (rx, rw)) : Ct ev_s l yX2_addGuard wsX2_addGuard rm_X2_addGuard D (ty3 cyI cyZ cyJ) [.ref (h 0)] (wM cyI cyZ h w) (fun o => o = .inr (some (.int rx), wM cyI cyZ h rw)) 0 0 := by
  refine ct_of (cc := cX2_addGuard) (nL := 1) (own := RX2) (ret := (some .int)) hfl (by decide) rfl rfl (Nat.le_of_ble_eq_true rfl) (fun p e s m args below meth c A C hr hnm => ?_)
  refine g_setQ (fun Q hQ => ?_)
  have kw0 := Cx.w C (.fieldLink RX2 26 "SleepBorderModel" "thrown" "I") (by decide +kernel)
  have kw1 := Cx.w C (.fieldLink RX2 16 "SleepBorderModel" "now" "[I") (by decide +kernel)
  have iX2 : ∀ w ∈ u_ws RX2 TX2 7, w ∈ wsX2_addGuard := by decide +kernel
  unfold X2_addGuard at hf
  refine g_lve (lv' := [(0, .ref (h 0))]) rfl ?_
  refine g_aload_n C dX2_addGuard_0 1 rfl 0 rfl ?_
  refine g_iconst C dX2_addGuard_1 2 rfl ic_0 ?_
  obtain ⟨w_2, e1, hf⟩ := bd1_s hf
  refine g_put C iX2 tyX2 tyX2_ok nmX2 0 rfl rfl 0 (by decide) kw0 rfl rfl rfl (Nat.le_of_ble_eq_true rfl) (st_34 (cyI := cyI) (cyZ := cyZ) (cyJ := cyJ) e1) dX2_addGuard_2 5 rfl ?_
  refine g_aload_n C dX2_addGuard_5 6 rfl 0 rfl ?_
  refine g_get C iX2 0 rfl rfl 4 (by decide) kw1 rfl rfl dX2_addGuard_6 9 rfl ?_
  refine g_iconst C dX2_addGuard_9 10 rfl ic_3 ?_
  obtain ⟨x4, e3, hf⟩ := bd1_s hf
  refine g_iald C 3 0 rfl rfl e3 dX2_addGuard_10 11 rfl ?_
  refine g_iconst C dX2_addGuard_11 12 rfl ic_4 ?_
  refine g_icmp_ne C dX2_addGuard_12 21 15 (by decide) rfl (fun c5 => ?_) (fun c5 => ?_)
  · have hf := ifn c5 hf
    refine g_aload_n C dX2_addGuard_21 22 rfl 0 rfl ?_
    obtain ⟨w_6, e7, hf⟩ := bd1_s hf
    refine g_callV1 C (m_X2_hire hfl (h := h) e7) cf_X2_hire gX2_addGuard_X2_hire ⟨Nat.le_of_ble_eq_true rfl, Nat.le_of_ble_eq_true rfl⟩ (q0 := 0) (As := []) (rest := []) (wl := []) (wr := []) (c2 := 0) (s2 := 0) rfl rfl rfl rfl rfl rfl (Nat.le_of_ble_eq_true rfl) rfl rfl ⟨Nat.le_of_ble_eq_true rfl, Nat.le_of_ble_eq_true rfl⟩ dX2_addGuard_22 25 rfl (ws2 := wM cyI cyZ h w_6) rfl (st2 := []) rfl ?_
    refine g_aload_n C dX2_addGuard_25 26 rfl 0 rfl ?_
    refine g_get C iX2 0 rfl rfl 4 (by decide) kw1 rfl rfl dX2_addGuard_26 29 rfl ?_
    refine g_iconst C dX2_addGuard_29 30 rfl ic_3 ?_
    obtain ⟨x9, e8, hf⟩ := bd1_s hf
    refine g_iald C 3 0 rfl rfl e8 dX2_addGuard_30 31 rfl ?_
    refine g_iconst C dX2_addGuard_31 32 rfl ic_1 ?_
    refine g_isub C dX2_addGuard_32 33 rfl ?_
    refine g_Q hQ ?_
    exact g_iret C hr (by cases hf; rfl) (Nat.le_of_ble_eq_true rfl) (Nat.le_of_ble_eq_true rfl) dX2_addGuard_33
  · have hf := ifp c5 hf
    refine g_aload_n C dX2_addGuard_15 16 rfl 0 rfl ?_
    refine g_iconst C dX2_addGuard_16 17 rfl ic_1 ?_
    obtain ⟨x10, w_11, e12, hf⟩ := bd2_s hf
    refine g_callV1 C (m_X2_fail hfl (h := h) e12) cf_X2_fail gX2_addGuard_X2_fail ⟨Nat.le_of_ble_eq_true rfl, Nat.le_of_ble_eq_true rfl⟩ (q0 := 0) (As := [.int 1]) (rest := []) (wl := []) (wr := []) (c2 := 0) (s2 := 0) rfl rfl rfl rfl rfl rfl (Nat.le_of_ble_eq_true rfl) rfl rfl ⟨Nat.le_of_ble_eq_true rfl, Nat.le_of_ble_eq_true rfl⟩ dX2_addGuard_17 20 rfl (ws2 := wM cyI cyZ h w_11) rfl (st2 := [.int x10]) rfl ?_
    refine g_Q hQ ?_
    exact g_iret C hr (by cases hf; rfl) (Nat.le_of_ble_eq_true rfl) (Nat.le_of_ble_eq_true rfl) dX2_addGuard_20
abbrev rm_X2_arrive : Room := { frames := 1, cells := 0, slots := 0, locals := 23 }
theorem cf_X2_arrive : CF yX2_arrive wsX2_arrive rm_X2_arrive cX2_arrive 5 (some .int) 4 0 0 RX2 := ⟨⟨_, rfl⟩, rfl, rfl, rfl, by decide, by decide, by decide +kernel⟩
set_option maxHeartbeats 4000000 in
set_option maxRecDepth 100000 in
theorem m_X2_arrive {l : Launch} (hfl : l.stackTraces = false) {D : va_G} {cyI cyZ cyJ : ClassId} {h : Nat → Nat} {w : S2} {a0 : Int32} {a1 : Int32} {a2 : Int32} {a3 : Int32} {rx : Int32} {rw : S2} (hf : X2_arrive w a0 a1 a2 a3 = some (rx, rw)) : Ct ev_s l yX2_arrive wsX2_arrive rm_X2_arrive D (ty3 cyI cyZ cyJ) [.ref (h 0), .int a0, .int a1, .int a2, .int a3] (wM cyI cyZ h w) (fun o => o = .inr (some (.int rx), wM cyI cyZ h rw)) 0 0 := by
  refine ct_of (cc := cX2_arrive) (nL := 5) (own := RX2) (ret := (some .int)) hfl (by decide) rfl rfl (Nat.le_of_ble_eq_true rfl) (fun p e s m args below meth c A C hr hnm => ?_)
  refine g_setQ (fun Q hQ => ?_)
  have kw0 := Cx.w C (.fieldLink RX2 26 "SleepBorderModel" "thrown" "I") (by decide +kernel)
  have kw1 := Cx.w C (.fieldLink RX2 30 "SleepBorderModel" "travellers" "I") (by decide +kernel)
  have iX2 : ∀ w ∈ u_ws RX2 TX2 7, w ∈ wsX2_arrive := by decide +kernel
  have kw3 := Cx.w C (.fieldLink RX2 9 "SleepBorderModel" "dreams" "[I") (by decide +kernel)
  have kw4 := Cx.w C (.fieldLink RX2 13 "SleepBorderModel" "snore" "[I") (by decide +kernel)
  unfold X2_arrive at hf
  refine g_lve (lv' := [(0, .ref (h 0)), (1, .int a0), (2, .int a1), (3, .int a2), (4, .int a3)]) rfl ?_
  refine g_aload_n C dX2_arrive_0 1 rfl 0 rfl ?_
  refine g_iconst C dX2_arrive_1 2 rfl ic_0 ?_
  obtain ⟨w_2, e1, hf⟩ := bd1_s hf
  refine g_put C iX2 tyX2 tyX2_ok nmX2 0 rfl rfl 0 (by decide) kw0 rfl rfl rfl (Nat.le_of_ble_eq_true rfl) (st_34 (cyI := cyI) (cyZ := cyZ) (cyJ := cyJ) e1) dX2_arrive_2 5 rfl ?_
  refine g_iload_n C dX2_arrive_5 6 rfl 1 rfl ?_
  refine g_iconst C dX2_arrive_6 7 rfl ic_0 ?_
  refine g_bipush C dX2_arrive_7 9 rfl bp_9 ?_
  obtain ⟨x3, e4, hf⟩ := bd1_s hf
  refine g_callS1 C (m_X2_isIn hfl  e4) cf_X2_isIn gX2_arrive_X2_isIn ⟨Nat.le_of_ble_eq_true rfl, Nat.le_of_ble_eq_true rfl⟩ (As := [.int a0, .int 0, .int 9]) (rest := []) (wl := []) (wr := wM cyI cyZ h w_2) (c2 := 0) (s2 := 0) rfl rfl rfl (Nat.le_of_ble_eq_true rfl) rfl rfl ⟨Nat.le_of_ble_eq_true rfl, Nat.le_of_ble_eq_true rfl⟩ dX2_arrive_9 12 rfl (ws2 := wM cyI cyZ h w_2) rfl (st2 := [.int x3]) rfl ?_
  refine g_if_eq C dX2_arrive_12 46 15 (by decide) rfl (fun c5 => ?_) (fun c5 => ?_)
  · have hf := ifp c5 hf
    refine g_aload_n C dX2_arrive_46 47 rfl 0 rfl ?_
    refine g_iconst C dX2_arrive_47 48 rfl ic_1 ?_
    obtain ⟨x6, w_7, e8, hf⟩ := bd2_s hf
    refine g_callV1 C (m_X2_fail hfl (h := h) e8) cf_X2_fail gX2_arrive_X2_fail ⟨Nat.le_of_ble_eq_true rfl, Nat.le_of_ble_eq_true rfl⟩ (q0 := 0) (As := [.int 1]) (rest := []) (wl := []) (wr := []) (c2 := 0) (s2 := 0) rfl rfl rfl rfl rfl rfl (Nat.le_of_ble_eq_true rfl) rfl rfl ⟨Nat.le_of_ble_eq_true rfl, Nat.le_of_ble_eq_true rfl⟩ dX2_arrive_48 51 rfl (ws2 := wM cyI cyZ h w_7) rfl (st2 := [.int x6]) rfl ?_
    refine g_Q hQ ?_
    exact g_iret C hr (by cases hf; rfl) (Nat.le_of_ble_eq_true rfl) (Nat.le_of_ble_eq_true rfl) dX2_arrive_51
  · have hf := ifn c5 hf
    refine g_iload_n C dX2_arrive_15 16 rfl 2 rfl ?_
    refine g_iconst C dX2_arrive_16 17 rfl ic_0 ?_
    refine g_bipush C dX2_arrive_17 19 rfl bp_9 ?_
    obtain ⟨x9, e10, hf⟩ := bd1_s hf
    refine g_callS1 C (m_X2_isIn hfl  e10) cf_X2_isIn gX2_arrive_X2_isIn ⟨Nat.le_of_ble_eq_true rfl, Nat.le_of_ble_eq_true rfl⟩ (As := [.int a1, .int 0, .int 9]) (rest := []) (wl := []) (wr := wM cyI cyZ h w_2) (c2 := 0) (s2 := 0) rfl rfl rfl (Nat.le_of_ble_eq_true rfl) rfl rfl ⟨Nat.le_of_ble_eq_true rfl, Nat.le_of_ble_eq_true rfl⟩ dX2_arrive_19 22 rfl (ws2 := wM cyI cyZ h w_2) rfl (st2 := [.int x9]) rfl ?_
    refine g_if_eq C dX2_arrive_22 46 25 (by decide) rfl (fun c11 => ?_) (fun c11 => ?_)
    · have hf := ifp c11 hf
      refine g_aload_n C dX2_arrive_46 47 rfl 0 rfl ?_
      refine g_iconst C dX2_arrive_47 48 rfl ic_1 ?_
      obtain ⟨x12, w_13, e14, hf⟩ := bd2_s hf
      refine g_callV1 C (m_X2_fail hfl (h := h) e14) cf_X2_fail gX2_arrive_X2_fail ⟨Nat.le_of_ble_eq_true rfl, Nat.le_of_ble_eq_true rfl⟩ (q0 := 0) (As := [.int 1]) (rest := []) (wl := []) (wr := []) (c2 := 0) (s2 := 0) rfl rfl rfl rfl rfl rfl (Nat.le_of_ble_eq_true rfl) rfl rfl ⟨Nat.le_of_ble_eq_true rfl, Nat.le_of_ble_eq_true rfl⟩ dX2_arrive_48 51 rfl (ws2 := wM cyI cyZ h w_13) rfl (st2 := [.int x12]) rfl ?_
      refine g_Q hQ ?_
      exact g_iret C hr (by cases hf; rfl) (Nat.le_of_ble_eq_true rfl) (Nat.le_of_ble_eq_true rfl) dX2_arrive_51
    · have hf := ifn c11 hf
      refine g_iload_n C dX2_arrive_25 26 rfl 3 rfl ?_
      refine g_iconst C dX2_arrive_26 27 rfl ic_0 ?_
      refine g_bipush C dX2_arrive_27 29 rfl bp_9 ?_
      obtain ⟨x15, e16, hf⟩ := bd1_s hf
      refine g_callS1 C (m_X2_isIn hfl  e16) cf_X2_isIn gX2_arrive_X2_isIn ⟨Nat.le_of_ble_eq_true rfl, Nat.le_of_ble_eq_true rfl⟩ (As := [.int a2, .int 0, .int 9]) (rest := []) (wl := []) (wr := wM cyI cyZ h w_2) (c2 := 0) (s2 := 0) rfl rfl rfl (Nat.le_of_ble_eq_true rfl) rfl rfl ⟨Nat.le_of_ble_eq_true rfl, Nat.le_of_ble_eq_true rfl⟩ dX2_arrive_29 32 rfl (ws2 := wM cyI cyZ h w_2) rfl (st2 := [.int x15]) rfl ?_
      refine g_if_eq C dX2_arrive_32 46 35 (by decide) rfl (fun c17 => ?_) (fun c17 => ?_)
      · have hf := ifp c17 hf
        refine g_aload_n C dX2_arrive_46 47 rfl 0 rfl ?_
        refine g_iconst C dX2_arrive_47 48 rfl ic_1 ?_
        obtain ⟨x18, w_19, e20, hf⟩ := bd2_s hf
        refine g_callV1 C (m_X2_fail hfl (h := h) e20) cf_X2_fail gX2_arrive_X2_fail ⟨Nat.le_of_ble_eq_true rfl, Nat.le_of_ble_eq_true rfl⟩ (q0 := 0) (As := [.int 1]) (rest := []) (wl := []) (wr := []) (c2 := 0) (s2 := 0) rfl rfl rfl rfl rfl rfl (Nat.le_of_ble_eq_true rfl) rfl rfl ⟨Nat.le_of_ble_eq_true rfl, Nat.le_of_ble_eq_true rfl⟩ dX2_arrive_48 51 rfl (ws2 := wM cyI cyZ h w_19) rfl (st2 := [.int x18]) rfl ?_
        refine g_Q hQ ?_
        exact g_iret C hr (by cases hf; rfl) (Nat.le_of_ble_eq_true rfl) (Nat.le_of_ble_eq_true rfl) dX2_arrive_51
      · have hf := ifn c17 hf
        refine g_iload C dX2_arrive_35 37 rfl 4 rfl ?_
        refine g_iconst C dX2_arrive_37 38 rfl ic_1 ?_
        refine g_bipush C dX2_arrive_38 40 rfl bp_60 ?_
        obtain ⟨x21, e22, hf⟩ := bd1_s hf
        refine g_callS1 C (m_X2_isIn hfl  e22) cf_X2_isIn gX2_arrive_X2_isIn ⟨Nat.le_of_ble_eq_true rfl, Nat.le_of_ble_eq_true rfl⟩ (As := [.int a3, .int 1, .int 60]) (rest := []) (wl := []) (wr := wM cyI cyZ h w_2) (c2 := 0) (s2 := 0) rfl rfl rfl (Nat.le_of_ble_eq_true rfl) rfl rfl ⟨Nat.le_of_ble_eq_true rfl, Nat.le_of_ble_eq_true rfl⟩ dX2_arrive_40 43 rfl (ws2 := wM cyI cyZ h w_2) rfl (st2 := [.int x21]) rfl ?_
        refine g_if_ne C dX2_arrive_43 52 46 (by decide) rfl (fun c23 => ?_) (fun c23 => ?_)
        · have hf := ifn c23 hf
          refine g_aload_n C dX2_arrive_52 53 rfl 0 rfl ?_
          refine g_get C iX2 0 rfl rfl 1 (by decide) kw1 rfl rfl dX2_arrive_53 56 rfl ?_
          refine g_bipush C dX2_arrive_56 58 rfl bp_24 ?_
          refine g_icmp_ne C dX2_arrive_58 67 61 (by decide) rfl (fun c24 => ?_) (fun c24 => ?_)
          · have hf := ifn c24 hf
            refine g_aload_n C dX2_arrive_67 68 rfl 0 rfl ?_
            refine g_get C iX2 0 rfl rfl 2 (by decide) kw3 rfl rfl dX2_arrive_68 71 rfl ?_
            refine g_aload_n C dX2_arrive_71 72 rfl 0 rfl ?_
            refine g_get C iX2 0 rfl rfl 1 (by decide) kw1 rfl rfl dX2_arrive_72 75 rfl ?_
            refine g_iload_n C dX2_arrive_75 76 rfl 1 rfl ?_
            obtain ⟨w_26, e25, hf⟩ := bd1_s hf
            refine g_iast C 1 0 rfl rfl (stA_in e25) (st_39 (cyI := cyI) (cyZ := cyZ) (cyJ := cyJ) e25) dX2_arrive_76 77 rfl ?_
            refine g_aload_n C dX2_arrive_77 78 rfl 0 rfl ?_
            refine g_get C iX2 0 rfl rfl 3 (by decide) kw4 rfl rfl dX2_arrive_78 81 rfl ?_
            refine g_aload_n C dX2_arrive_81 82 rfl 0 rfl ?_
            refine g_get C iX2 0 rfl rfl 1 (by decide) kw1 rfl rfl dX2_arrive_82 85 rfl ?_
            refine g_iload_n C dX2_arrive_85 86 rfl 3 rfl ?_
            obtain ⟨w_28, e27, hf⟩ := bd1_s hf
            refine g_iast C 2 0 rfl rfl (stA_in e27) (st_40 (cyI := cyI) (cyZ := cyZ) (cyJ := cyJ) e27) dX2_arrive_86 87 rfl ?_
            refine g_aload_n C dX2_arrive_87 88 rfl 0 rfl ?_
            refine g_aload_n C dX2_arrive_88 89 rfl 0 rfl ?_
            refine g_get C iX2 0 rfl rfl 1 (by decide) kw1 rfl rfl dX2_arrive_89 92 rfl ?_
            refine g_iconst C dX2_arrive_92 93 rfl ic_1 ?_
            refine g_iload C dX2_arrive_93 95 rfl 4 rfl ?_
            obtain ⟨w_29, e30, hf⟩ := bd1_s hf
            refine g_callV1 C (m_X2_let hfl (h := h) e30) cf_X2_let gX2_arrive_X2_let ⟨Nat.le_of_ble_eq_true rfl, Nat.le_of_ble_eq_true rfl⟩ (q0 := 0) (As := [.int (w_28 0 1), .int 1, .int a3]) (rest := []) (wl := []) (wr := []) (c2 := 0) (s2 := 0) rfl rfl rfl rfl rfl rfl (Nat.le_of_ble_eq_true rfl) rfl rfl ⟨Nat.le_of_ble_eq_true rfl, Nat.le_of_ble_eq_true rfl⟩ dX2_arrive_95 98 rfl (ws2 := wM cyI cyZ h w_29) rfl (st2 := []) rfl ?_
            refine g_aload_n C dX2_arrive_98 99 rfl 0 rfl ?_
            refine g_aload_n C dX2_arrive_99 100 rfl 0 rfl ?_
            refine g_get C iX2 0 rfl rfl 1 (by decide) kw1 rfl rfl dX2_arrive_100 103 rfl ?_
            refine g_iconst C dX2_arrive_103 104 rfl ic_2 ?_
            refine g_iload_n C dX2_arrive_104 105 rfl 2 rfl ?_
            obtain ⟨w_31, e32, hf⟩ := bd1_s hf
            refine g_callV1 C (m_X2_let hfl (h := h) e32) cf_X2_let gX2_arrive_X2_let ⟨Nat.le_of_ble_eq_true rfl, Nat.le_of_ble_eq_true rfl⟩ (q0 := 0) (As := [.int (w_29 0 1), .int 2, .int a1]) (rest := []) (wl := []) (wr := []) (c2 := 0) (s2 := 0) rfl rfl rfl rfl rfl rfl (Nat.le_of_ble_eq_true rfl) rfl rfl ⟨Nat.le_of_ble_eq_true rfl, Nat.le_of_ble_eq_true rfl⟩ dX2_arrive_105 108 rfl (ws2 := wM cyI cyZ h w_31) rfl (st2 := []) rfl ?_
            refine g_aload_n C dX2_arrive_108 109 rfl 0 rfl ?_
            refine g_dup C dX2_arrive_109 110 rfl rfl ?_
            refine g_get C iX2 0 rfl rfl 1 (by decide) kw1 rfl rfl dX2_arrive_110 113 rfl ?_
            refine g_iconst C dX2_arrive_113 114 rfl ic_1 ?_
            refine g_iadd C dX2_arrive_114 115 rfl ?_
            obtain ⟨w_34, e33, hf⟩ := bd1_s hf
            refine g_put C iX2 tyX2 tyX2_ok nmX2 0 rfl rfl 1 (by decide) kw1 rfl rfl rfl (Nat.le_of_ble_eq_true rfl) (st_41 (cyI := cyI) (cyZ := cyZ) (cyJ := cyJ) e33) dX2_arrive_115 118 rfl ?_
            refine g_aload_n C dX2_arrive_118 119 rfl 0 rfl ?_
            refine g_get C iX2 0 rfl rfl 1 (by decide) kw1 rfl rfl dX2_arrive_119 122 rfl ?_
            refine g_iconst C dX2_arrive_122 123 rfl ic_1 ?_
            refine g_isub C dX2_arrive_123 124 rfl ?_
            refine g_Q hQ ?_
            exact g_iret C hr (by cases hf; rfl) (Nat.le_of_ble_eq_true rfl) (Nat.le_of_ble_eq_true rfl) dX2_arrive_124
          · have hf := ifp c24 hf
            refine g_aload_n C dX2_arrive_61 62 rfl 0 rfl ?_
            refine g_iconst C dX2_arrive_62 63 rfl ic_2 ?_
            obtain ⟨x35, w_36, e37, hf⟩ := bd2_s hf
            refine g_callV1 C (m_X2_fail hfl (h := h) e37) cf_X2_fail gX2_arrive_X2_fail ⟨Nat.le_of_ble_eq_true rfl, Nat.le_of_ble_eq_true rfl⟩ (q0 := 0) (As := [.int 2]) (rest := []) (wl := []) (wr := []) (c2 := 0) (s2 := 0) rfl rfl rfl rfl rfl rfl (Nat.le_of_ble_eq_true rfl) rfl rfl ⟨Nat.le_of_ble_eq_true rfl, Nat.le_of_ble_eq_true rfl⟩ dX2_arrive_63 66 rfl (ws2 := wM cyI cyZ h w_36) rfl (st2 := [.int x35]) rfl ?_
            refine g_Q hQ ?_
            exact g_iret C hr (by cases hf; rfl) (Nat.le_of_ble_eq_true rfl) (Nat.le_of_ble_eq_true rfl) dX2_arrive_66
        · have hf := ifp c23 hf
          refine g_aload_n C dX2_arrive_46 47 rfl 0 rfl ?_
          refine g_iconst C dX2_arrive_47 48 rfl ic_1 ?_
          obtain ⟨x38, w_39, e40, hf⟩ := bd2_s hf
          refine g_callV1 C (m_X2_fail hfl (h := h) e40) cf_X2_fail gX2_arrive_X2_fail ⟨Nat.le_of_ble_eq_true rfl, Nat.le_of_ble_eq_true rfl⟩ (q0 := 0) (As := [.int 1]) (rest := []) (wl := []) (wr := []) (c2 := 0) (s2 := 0) rfl rfl rfl rfl rfl rfl (Nat.le_of_ble_eq_true rfl) rfl rfl ⟨Nat.le_of_ble_eq_true rfl, Nat.le_of_ble_eq_true rfl⟩ dX2_arrive_48 51 rfl (ws2 := wM cyI cyZ h w_39) rfl (st2 := [.int x38]) rfl ?_
          refine g_Q hQ ?_
          exact g_iret C hr (by cases hf; rfl) (Nat.le_of_ble_eq_true rfl) (Nat.le_of_ble_eq_true rfl) dX2_arrive_51
abbrev rm_X2_write : Room := { frames := 2, cells := 0, slots := 0, locals := 43 }
theorem cf_X2_write : CF yX2_write wsX2_write rm_X2_write cX2_write 7 (some .int) 5 0 0 RX2 := ⟨⟨_, rfl⟩, rfl, rfl, rfl, by decide, by decide, by decide +kernel⟩
set_option maxHeartbeats 4000000 in
set_option maxRecDepth 100000 in
theorem m_X2_write {l : Launch} (hfl : l.stackTraces = false) {D : va_G} {cyI cyZ cyJ : ClassId} {h : Nat → Nat} {w : S2} {a0 : Int32} {a1 : Int32} {a2 : Int32} {a3 : Int32} {a4 : Int32} {rx : Int32} {rw : S2} (hf : X2_write w a0 a1 a2 a3 a4 = some (rx, rw)) : Ct ev_s l yX2_write wsX2_write rm_X2_write D (ty3 cyI cyZ cyJ) [.ref (h 0), .int a0, .int a1, .int a2, .int a3, .int a4] (wM cyI cyZ h w) (fun o => o = .inr (some (.int rx), wM cyI cyZ h rw)) 0 0 := by
  refine ct_of (cc := cX2_write) (nL := 7) (own := RX2) (ret := (some .int)) hfl (by decide) rfl rfl (Nat.le_of_ble_eq_true rfl) (fun p e s m args below meth c A C hr hnm => ?_)
  refine g_setQ (fun Q hQ => ?_)
  have kw0 := Cx.w C (.fieldLink RX2 26 "SleepBorderModel" "thrown" "I") (by decide +kernel)
  have iX2 : ∀ w ∈ u_ws RX2 TX2 7, w ∈ wsX2_write := by decide +kernel
  unfold X2_write at hf
  refine g_lve (lv' := [(0, .ref (h 0)), (1, .int a0), (2, .int a1), (3, .int a2), (4, .int a3), (5, .int a4)]) rfl ?_
  refine g_aload_n C dX2_write_0 1 rfl 0 rfl ?_
  refine g_iconst C dX2_write_1 2 rfl ic_0 ?_
  obtain ⟨w_2, e1, hf⟩ := bd1_s hf
  refine g_put C iX2 tyX2 tyX2_ok nmX2 0 rfl rfl 0 (by decide) kw0 rfl rfl rfl (Nat.le_of_ble_eq_true rfl) (st_34 (cyI := cyI) (cyZ := cyZ) (cyJ := cyJ) e1) dX2_write_2 5 rfl ?_
  refine g_aload_n C dX2_write_5 6 rfl 0 rfl ?_
  refine g_iload_n C dX2_write_6 7 rfl 1 rfl ?_
  obtain ⟨x3, e4, hf⟩ := bd1_s hf
  refine g_callV1 C (m_X2_isTraveller hfl (h := h) e4) cf_X2_isTraveller gX2_write_X2_isTraveller ⟨Nat.le_of_ble_eq_true rfl, Nat.le_of_ble_eq_true rfl⟩ (q0 := 0) (As := [.int a0]) (rest := []) (wl := []) (wr := []) (c2 := 0) (s2 := 0) rfl rfl rfl rfl rfl rfl (Nat.le_of_ble_eq_true rfl) rfl rfl ⟨Nat.le_of_ble_eq_true rfl, Nat.le_of_ble_eq_true rfl⟩ dX2_write_7 10 rfl (ws2 := wM cyI cyZ h w_2) rfl (st2 := [.int x3]) rfl ?_
  refine g_if_ne C dX2_write_10 19 13 (by decide) rfl (fun c5 => ?_) (fun c5 => ?_)
  · have hf := ifn c5 hf
    refine g_iload_n C dX2_write_19 20 rfl 3 rfl ?_
    refine g_iload C dX2_write_20 22 rfl 4 rfl ?_
    refine g_iload C dX2_write_22 24 rfl 5 rfl ?_
    obtain ⟨x6, e7, hf⟩ := bd1_s hf
    refine g_callS1 C (m_X2_isIn hfl  e7) cf_X2_isIn gX2_write_X2_isIn ⟨Nat.le_of_ble_eq_true rfl, Nat.le_of_ble_eq_true rfl⟩ (As := [.int a2, .int a3, .int a4]) (rest := []) (wl := []) (wr := wM cyI cyZ h w_2) (c2 := 0) (s2 := 0) rfl rfl rfl (Nat.le_of_ble_eq_true rfl) rfl rfl ⟨Nat.le_of_ble_eq_true rfl, Nat.le_of_ble_eq_true rfl⟩ dX2_write_24 27 rfl (ws2 := wM cyI cyZ h w_2) rfl (st2 := [.int x6]) rfl ?_
    refine g_if_ne C dX2_write_27 36 30 (by decide) rfl (fun c8 => ?_) (fun c8 => ?_)
    · have hf := ifn c8 hf
      refine g_aload_n C dX2_write_36 37 rfl 0 rfl ?_
      refine g_iload_n C dX2_write_37 38 rfl 1 rfl ?_
      refine g_iconst C dX2_write_38 39 rfl ic_0 ?_
      obtain ⟨x9, e10, hf⟩ := bd1_s hf
      refine g_callV1 C (m_X2_tr hfl (h := h) e10) cf_X2_tr gX2_write_X2_tr ⟨Nat.le_of_ble_eq_true rfl, Nat.le_of_ble_eq_true rfl⟩ (q0 := 0) (As := [.int a0, .int 0]) (rest := []) (wl := []) (wr := []) (c2 := 0) (s2 := 0) rfl rfl rfl rfl rfl rfl (Nat.le_of_ble_eq_true rfl) rfl rfl ⟨Nat.le_of_ble_eq_true rfl, Nat.le_of_ble_eq_true rfl⟩ dX2_write_39 42 rfl (ws2 := wM cyI cyZ h w_2) rfl (st2 := [.int x9]) rfl ?_
      refine g_if_eq C dX2_write_42 51 45 (by decide) rfl (fun c11 => ?_) (fun c11 => ?_)
      · have hf := ifp c11 hf
        refine g_aload_n C dX2_write_51 52 rfl 0 rfl ?_
        refine g_iload_n C dX2_write_52 53 rfl 1 rfl ?_
        refine g_iload_n C dX2_write_53 54 rfl 2 rfl ?_
        obtain ⟨x12, e13, hf⟩ := bd1_s hf
        refine g_callV1 C (m_X2_tr hfl (h := h) e13) cf_X2_tr gX2_write_X2_tr ⟨Nat.le_of_ble_eq_true rfl, Nat.le_of_ble_eq_true rfl⟩ (q0 := 0) (As := [.int a0, .int a1]) (rest := []) (wl := []) (wr := []) (c2 := 0) (s2 := 0) rfl rfl rfl rfl rfl rfl (Nat.le_of_ble_eq_true rfl) rfl rfl ⟨Nat.le_of_ble_eq_true rfl, Nat.le_of_ble_eq_true rfl⟩ dX2_write_54 57 rfl (ws2 := wM cyI cyZ h w_2) rfl (st2 := [.int x12]) rfl ?_
        refine g_istore C dX2_write_57 59 rfl (by decide) (lv' := [(6, .int x12), (0, .ref (h 0)), (1, .int a0), (2, .int a1), (3, .int a2), (4, .int a3), (5, .int a4)]) rfl ?_
        refine g_aload_n C dX2_write_59 60 rfl 1 rfl ?_
        refine g_iload_n C dX2_write_60 61 rfl 2 rfl ?_
        refine g_iload_n C dX2_write_61 62 rfl 3 rfl ?_
        refine g_iload_n C dX2_write_62 63 rfl 4 rfl ?_
        obtain ⟨w_14, e15, hf⟩ := bd1_s hf
        refine g_callV1 C (m_X2_let hfl (h := h) e15) cf_X2_let gX2_write_X2_let ⟨Nat.le_of_ble_eq_true rfl, Nat.le_of_ble_eq_true rfl⟩ (q0 := 0) (As := [.int a0, .int a1, .int a2]) (rest := []) (wl := []) (wr := []) (c2 := 0) (s2 := 0) rfl rfl rfl rfl rfl rfl (Nat.le_of_ble_eq_true rfl) rfl rfl ⟨Nat.le_of_ble_eq_true rfl, Nat.le_of_ble_eq_true rfl⟩ dX2_write_63 66 rfl (ws2 := wM cyI cyZ h w_14) rfl (st2 := []) rfl ?_
        refine g_iload C dX2_write_66 68 rfl 0 rfl ?_
        refine g_Q hQ ?_
        exact g_iret C hr (by cases hf; rfl) (Nat.le_of_ble_eq_true rfl) (Nat.le_of_ble_eq_true rfl) dX2_write_68
      · have hf := ifn c11 hf
        refine g_aload_n C dX2_write_45 46 rfl 0 rfl ?_
        refine g_iconst C dX2_write_46 47 rfl ic_3 ?_
        obtain ⟨x16, w_17, e18, hf⟩ := bd2_s hf
        refine g_callV1 C (m_X2_fail hfl (h := h) e18) cf_X2_fail gX2_write_X2_fail ⟨Nat.le_of_ble_eq_true rfl, Nat.le_of_ble_eq_true rfl⟩ (q0 := 0) (As := [.int 3]) (rest := []) (wl := []) (wr := []) (c2 := 0) (s2 := 0) rfl rfl rfl rfl rfl rfl (Nat.le_of_ble_eq_true rfl) rfl rfl ⟨Nat.le_of_ble_eq_true rfl, Nat.le_of_ble_eq_true rfl⟩ dX2_write_47 50 rfl (ws2 := wM cyI cyZ h w_17) rfl (st2 := [.int x16]) rfl ?_
        refine g_Q hQ ?_
        exact g_iret C hr (by cases hf; rfl) (Nat.le_of_ble_eq_true rfl) (Nat.le_of_ble_eq_true rfl) dX2_write_50
    · have hf := ifp c8 hf
      refine g_aload_n C dX2_write_30 31 rfl 0 rfl ?_
      refine g_iconst C dX2_write_31 32 rfl ic_2 ?_
      obtain ⟨x19, w_20, e21, hf⟩ := bd2_s hf
      refine g_callV1 C (m_X2_fail hfl (h := h) e21) cf_X2_fail gX2_write_X2_fail ⟨Nat.le_of_ble_eq_true rfl, Nat.le_of_ble_eq_true rfl⟩ (q0 := 0) (As := [.int 2]) (rest := []) (wl := []) (wr := []) (c2 := 0) (s2 := 0) rfl rfl rfl rfl rfl rfl (Nat.le_of_ble_eq_true rfl) rfl rfl ⟨Nat.le_of_ble_eq_true rfl, Nat.le_of_ble_eq_true rfl⟩ dX2_write_32 35 rfl (ws2 := wM cyI cyZ h w_20) rfl (st2 := [.int x19]) rfl ?_
      refine g_Q hQ ?_
      exact g_iret C hr (by cases hf; rfl) (Nat.le_of_ble_eq_true rfl) (Nat.le_of_ble_eq_true rfl) dX2_write_35
  · have hf := ifp c5 hf
    refine g_aload_n C dX2_write_13 14 rfl 0 rfl ?_
    refine g_iconst C dX2_write_14 15 rfl ic_1 ?_
    obtain ⟨x22, w_23, e24, hf⟩ := bd2_s hf
    refine g_callV1 C (m_X2_fail hfl (h := h) e24) cf_X2_fail gX2_write_X2_fail ⟨Nat.le_of_ble_eq_true rfl, Nat.le_of_ble_eq_true rfl⟩ (q0 := 0) (As := [.int 1]) (rest := []) (wl := []) (wr := []) (c2 := 0) (s2 := 0) rfl rfl rfl rfl rfl rfl (Nat.le_of_ble_eq_true rfl) rfl rfl ⟨Nat.le_of_ble_eq_true rfl, Nat.le_of_ble_eq_true rfl⟩ dX2_write_15 18 rfl (ws2 := wM cyI cyZ h w_23) rfl (st2 := [.int x22]) rfl ?_
    refine g_Q hQ ?_
    exact g_iret C hr (by cases hf; rfl) (Nat.le_of_ble_eq_true rfl) (Nat.le_of_ble_eq_true rfl) dX2_write_18
abbrev rm_X2_declare : Room := { frames := 3, cells := 0, slots := 0, locals := 69 }
theorem cf_X2_declare : CF yX2_declare wsX2_declare rm_X2_declare cX2_declare 3 (some .int) 2 0 0 RX2 := ⟨⟨_, rfl⟩, rfl, rfl, rfl, by decide, by decide, by decide +kernel⟩
set_option maxHeartbeats 4000000 in
set_option maxRecDepth 100000 in
theorem m_X2_declare {l : Launch} (hfl : l.stackTraces = false) {D : va_G} {cyI cyZ cyJ : ClassId} {h : Nat → Nat} {w : S2} {a0 : Int32} {a1 : Int32} {rx : Int32} {rw : S2} (hf : X2_declare w a0 a1 = some (rx, rw)) : Ct ev_s l yX2_declare wsX2_declare rm_X2_declare D (ty3 cyI cyZ cyJ) [.ref (h 0), .int a0, .int a1] (wM cyI cyZ h w) (fun o => o = .inr (some (.int rx), wM cyI cyZ h rw)) 0 0 := by
  refine ct_of (cc := cX2_declare) (nL := 3) (own := RX2) (ret := (some .int)) hfl (by decide) rfl rfl (Nat.le_of_ble_eq_true rfl) (fun p e s m args below meth c A C hr hnm => ?_)
  refine g_setQ (fun Q hQ => ?_)
  unfold X2_declare at hf
  refine g_lve (lv' := [(0, .ref (h 0)), (1, .int a0), (2, .int a1)]) rfl ?_
  refine g_aload_n C dX2_declare_0 1 rfl 0 rfl ?_
  refine g_iload_n C dX2_declare_1 2 rfl 1 rfl ?_
  refine g_iconst C dX2_declare_2 3 rfl ic_2 ?_
  refine g_iload_n C dX2_declare_3 4 rfl 2 rfl ?_
  refine g_iconst C dX2_declare_4 5 rfl ic_0 ?_
  refine g_bipush C dX2_declare_5 7 rfl bp_9 ?_
  obtain ⟨x1, w_2, e3, hf⟩ := bd2_s hf
  refine g_callV1 C (m_X2_write hfl (h := h) e3) cf_X2_write gX2_declare_X2_write ⟨Nat.le_of_ble_eq_true rfl, Nat.le_of_ble_eq_true rfl⟩ (q0 := 0) (As := [.int a0, .int 2, .int a1, .int 0, .int 9]) (rest := []) (wl := []) (wr := []) (c2 := 0) (s2 := 0) rfl rfl rfl rfl rfl rfl (Nat.le_of_ble_eq_true rfl) rfl rfl ⟨Nat.le_of_ble_eq_true rfl, Nat.le_of_ble_eq_true rfl⟩ dX2_declare_7 10 rfl (ws2 := wM cyI cyZ h w_2) rfl (st2 := [.int x1]) rfl ?_
  refine g_Q hQ ?_
  exact g_iret C hr (by cases hf; rfl) (Nat.le_of_ble_eq_true rfl) (Nat.le_of_ble_eq_true rfl) dX2_declare_10
abbrev rm_X2_sing : Room := { frames := 3, cells := 0, slots := 0, locals := 69 }
theorem cf_X2_sing : CF yX2_sing wsX2_sing rm_X2_sing cX2_sing 3 (some .int) 2 0 0 RX2 := ⟨⟨_, rfl⟩, rfl, rfl, rfl, by decide, by decide, by decide +kernel⟩
set_option maxHeartbeats 4000000 in
set_option maxRecDepth 100000 in
theorem m_X2_sing {l : Launch} (hfl : l.stackTraces = false) {D : va_G} {cyI cyZ cyJ : ClassId} {h : Nat → Nat} {w : S2} {a0 : Int32} {a1 : Int32} {rx : Int32} {rw : S2} (hf : X2_sing w a0 a1 = some (rx, rw)) : Ct ev_s l yX2_sing wsX2_sing rm_X2_sing D (ty3 cyI cyZ cyJ) [.ref (h 0), .int a0, .int a1] (wM cyI cyZ h w) (fun o => o = .inr (some (.int rx), wM cyI cyZ h rw)) 0 0 := by
  refine ct_of (cc := cX2_sing) (nL := 3) (own := RX2) (ret := (some .int)) hfl (by decide) rfl rfl (Nat.le_of_ble_eq_true rfl) (fun p e s m args below meth c A C hr hnm => ?_)
  refine g_setQ (fun Q hQ => ?_)
  unfold X2_sing at hf
  refine g_lve (lv' := [(0, .ref (h 0)), (1, .int a0), (2, .int a1)]) rfl ?_
  refine g_aload_n C dX2_sing_0 1 rfl 0 rfl ?_
  refine g_iload_n C dX2_sing_1 2 rfl 1 rfl ?_
  refine g_iconst C dX2_sing_2 3 rfl ic_1 ?_
  refine g_iload_n C dX2_sing_3 4 rfl 2 rfl ?_
  refine g_iconst C dX2_sing_4 5 rfl ic_1 ?_
  refine g_bipush C dX2_sing_5 7 rfl bp_60 ?_
  obtain ⟨x1, w_2, e3, hf⟩ := bd2_s hf
  refine g_callV1 C (m_X2_write hfl (h := h) e3) cf_X2_write gX2_sing_X2_write ⟨Nat.le_of_ble_eq_true rfl, Nat.le_of_ble_eq_true rfl⟩ (q0 := 0) (As := [.int a0, .int 1, .int a1, .int 1, .int 60]) (rest := []) (wl := []) (wr := []) (c2 := 0) (s2 := 0) rfl rfl rfl rfl rfl rfl (Nat.le_of_ble_eq_true rfl) rfl rfl ⟨Nat.le_of_ble_eq_true rfl, Nat.le_of_ble_eq_true rfl⟩ dX2_sing_7 10 rfl (ws2 := wM cyI cyZ h w_2) rfl (st2 := [.int x1]) rfl ?_
  refine g_Q hQ ?_
  exact g_iret C hr (by cases hf; rfl) (Nat.le_of_ble_eq_true rfl) (Nat.le_of_ble_eq_true rfl) dX2_sing_10
abbrev rm_X2_wake : Room := { frames := 2, cells := 0, slots := 0, locals := 43 }
theorem cf_X2_wake : CF yX2_wake wsX2_wake rm_X2_wake cX2_wake 3 (some .int) 1 0 0 RX2 := ⟨⟨_, rfl⟩, rfl, rfl, rfl, by decide, by decide, by decide +kernel⟩
set_option maxHeartbeats 4000000 in
set_option maxRecDepth 100000 in
theorem m_X2_wake {l : Launch} (hfl : l.stackTraces = false) {D : va_G} {cyI cyZ cyJ : ClassId} {h : Nat → Nat} {w : S2} {a0 : Int32} {rx : Int32} {rw : S2} (hf : X2_wake w a0 = some (rx, rw)) : Ct ev_s l yX2_wake wsX2_wake rm_X2_wake D (ty3 cyI cyZ cyJ) [.ref (h 0), .int a0] (wM cyI cyZ h w) (fun o => o = .inr (some (.int rx), wM cyI cyZ h rw)) 0 0 := by
  refine ct_of (cc := cX2_wake) (nL := 3) (own := RX2) (ret := (some .int)) hfl (by decide) rfl rfl (Nat.le_of_ble_eq_true rfl) (fun p e s m args below meth c A C hr hnm => ?_)
  refine g_setQ (fun Q hQ => ?_)
  have kw0 := Cx.w C (.fieldLink RX2 26 "SleepBorderModel" "thrown" "I") (by decide +kernel)
  have iX2 : ∀ w ∈ u_ws RX2 TX2 7, w ∈ wsX2_wake := by decide +kernel
  unfold X2_wake at hf
  refine g_lve (lv' := [(0, .ref (h 0)), (1, .int a0)]) rfl ?_
  refine g_aload_n C dX2_wake_0 1 rfl 0 rfl ?_
  refine g_iconst C dX2_wake_1 2 rfl ic_0 ?_
  obtain ⟨w_2, e1, hf⟩ := bd1_s hf
  refine g_put C iX2 tyX2 tyX2_ok nmX2 0 rfl rfl 0 (by decide) kw0 rfl rfl rfl (Nat.le_of_ble_eq_true rfl) (st_34 (cyI := cyI) (cyZ := cyZ) (cyJ := cyJ) e1) dX2_wake_2 5 rfl ?_
  refine g_aload_n C dX2_wake_5 6 rfl 0 rfl ?_
  refine g_iload_n C dX2_wake_6 7 rfl 1 rfl ?_
  obtain ⟨x3, e4, hf⟩ := bd1_s hf
  refine g_callV1 C (m_X2_isGuard hfl (h := h) e4) cf_X2_isGuard gX2_wake_X2_isGuard ⟨Nat.le_of_ble_eq_true rfl, Nat.le_of_ble_eq_true rfl⟩ (q0 := 0) (As := [.int a0]) (rest := []) (wl := []) (wr := []) (c2 := 0) (s2 := 0) rfl rfl rfl rfl rfl rfl (Nat.le_of_ble_eq_true rfl) rfl rfl ⟨Nat.le_of_ble_eq_true rfl, Nat.le_of_ble_eq_true rfl⟩ dX2_wake_7 10 rfl (ws2 := wM cyI cyZ h w_2) rfl (st2 := [.int x3]) rfl ?_
  refine g_if_ne C dX2_wake_10 19 13 (by decide) rfl (fun c5 => ?_) (fun c5 => ?_)
  · have hf := ifn c5 hf
    refine g_aload_n C dX2_wake_19 20 rfl 0 rfl ?_
    refine g_iload_n C dX2_wake_20 21 rfl 1 rfl ?_
    refine g_iconst C dX2_wake_21 22 rfl ic_0 ?_
    obtain ⟨x6, e7, hf⟩ := bd1_s hf
    refine g_callV1 C (m_X2_gu hfl (h := h) e7) cf_X2_gu gX2_wake_X2_gu ⟨Nat.le_of_ble_eq_true rfl, Nat.le_of_ble_eq_true rfl⟩ (q0 := 0) (As := [.int a0, .int 0]) (rest := []) (wl := []) (wr := []) (c2 := 0) (s2 := 0) rfl rfl rfl rfl rfl rfl (Nat.le_of_ble_eq_true rfl) rfl rfl ⟨Nat.le_of_ble_eq_true rfl, Nat.le_of_ble_eq_true rfl⟩ dX2_wake_22 25 rfl (ws2 := wM cyI cyZ h w_2) rfl (st2 := [.int x6]) rfl ?_
    refine g_istore_n C dX2_wake_25 26 rfl (by decide) (lv' := [(2, .int x6), (0, .ref (h 0)), (1, .int a0)]) rfl ?_
    refine g_aload_n C dX2_wake_26 27 rfl 1 rfl ?_
    refine g_iload_n C dX2_wake_27 28 rfl 2 rfl ?_
    refine g_iconst C dX2_wake_28 29 rfl ic_0 ?_
    refine g_bipush C dX2_wake_29 31 rfl bp_9 ?_
    obtain ⟨w_8, e9, hf⟩ := bd1_s hf
    refine g_callV1 C (m_X2_post hfl (h := h) e9) cf_X2_post gX2_wake_X2_post ⟨Nat.le_of_ble_eq_true rfl, Nat.le_of_ble_eq_true rfl⟩ (q0 := 0) (As := [.int a0, .int 0, .int 9]) (rest := []) (wl := []) (wr := []) (c2 := 0) (s2 := 0) rfl rfl rfl rfl rfl rfl (Nat.le_of_ble_eq_true rfl) rfl rfl ⟨Nat.le_of_ble_eq_true rfl, Nat.le_of_ble_eq_true rfl⟩ dX2_wake_31 34 rfl (ws2 := wM cyI cyZ h w_8) rfl (st2 := []) rfl ?_
    refine g_iload_n C dX2_wake_34 35 rfl 0 rfl ?_
    refine g_Q hQ ?_
    exact g_iret C hr (by cases hf; rfl) (Nat.le_of_ble_eq_true rfl) (Nat.le_of_ble_eq_true rfl) dX2_wake_35
  · have hf := ifp c5 hf
    refine g_aload_n C dX2_wake_13 14 rfl 0 rfl ?_
    refine g_iconst C dX2_wake_14 15 rfl ic_1 ?_
    obtain ⟨x10, w_11, e12, hf⟩ := bd2_s hf
    refine g_callV1 C (m_X2_fail hfl (h := h) e12) cf_X2_fail gX2_wake_X2_fail ⟨Nat.le_of_ble_eq_true rfl, Nat.le_of_ble_eq_true rfl⟩ (q0 := 0) (As := [.int 1]) (rest := []) (wl := []) (wr := []) (c2 := 0) (s2 := 0) rfl rfl rfl rfl rfl rfl (Nat.le_of_ble_eq_true rfl) rfl rfl ⟨Nat.le_of_ble_eq_true rfl, Nat.le_of_ble_eq_true rfl⟩ dX2_wake_15 18 rfl (ws2 := wM cyI cyZ h w_11) rfl (st2 := [.int x10]) rfl ?_
    refine g_Q hQ ?_
    exact g_iret C hr (by cases hf; rfl) (Nat.le_of_ble_eq_true rfl) (Nat.le_of_ble_eq_true rfl) dX2_wake_18
abbrev rm_X2_pass : Room := { frames := 6, cells := 0, slots := 0, locals := 131 }
theorem cf_X2_pass : CF yX2_pass wsX2_pass rm_X2_pass cX2_pass 3 (some .int) 1 0 0 RX2 := ⟨⟨_, rfl⟩, rfl, rfl, rfl, by decide, by decide, by decide +kernel⟩
set_option maxHeartbeats 4000000 in
set_option maxRecDepth 100000 in
theorem m_X2_pass {l : Launch} (hfl : l.stackTraces = false) {D : va_G} {cyI cyZ cyJ : ClassId} {h : Nat → Nat} {w : S2} {a0 : Int32} {rx : Int32} {rw : S2} (hf : X2_pass w a0 = some (rx, rw)) : Ct ev_s l yX2_pass wsX2_pass rm_X2_pass D (ty3 cyI cyZ cyJ) [.ref (h 0), .int a0] (wM cyI cyZ h w) (fun o => o = .inr (some (.int rx), wM cyI cyZ h rw)) 0 0 := by
  refine ct_of (cc := cX2_pass) (nL := 3) (own := RX2) (ret := (some .int)) hfl (by decide) rfl rfl (Nat.le_of_ble_eq_true rfl) (fun p e s m args below meth c A C hr hnm => ?_)
  refine g_setQ (fun Q hQ => ?_)
  have kw0 := Cx.w C (.fieldLink RX2 26 "SleepBorderModel" "thrown" "I") (by decide +kernel)
  have iX2 : ∀ w ∈ u_ws RX2 TX2 7, w ∈ wsX2_pass := by decide +kernel
  unfold X2_pass at hf
  refine g_lve (lv' := [(0, .ref (h 0)), (1, .int a0)]) rfl ?_
  refine g_aload_n C dX2_pass_0 1 rfl 0 rfl ?_
  refine g_iconst C dX2_pass_1 2 rfl ic_0 ?_
  obtain ⟨w_2, e1, hf⟩ := bd1_s hf
  refine g_put C iX2 tyX2 tyX2_ok nmX2 0 rfl rfl 0 (by decide) kw0 rfl rfl rfl (Nat.le_of_ble_eq_true rfl) (st_34 (cyI := cyI) (cyZ := cyZ) (cyJ := cyJ) e1) dX2_pass_2 5 rfl ?_
  refine g_iload_n C dX2_pass_5 6 rfl 1 rfl ?_
  refine g_iconst C dX2_pass_6 7 rfl ic_1 ?_
  refine g_bipush C dX2_pass_7 9 rfl bp_60 ?_
  obtain ⟨x3, e4, hf⟩ := bd1_s hf
  refine g_callS1 C (m_X2_isIn hfl  e4) cf_X2_isIn gX2_pass_X2_isIn ⟨Nat.le_of_ble_eq_true rfl, Nat.le_of_ble_eq_true rfl⟩ (As := [.int a0, .int 1, .int 60]) (rest := []) (wl := []) (wr := wM cyI cyZ h w_2) (c2 := 0) (s2 := 0) rfl rfl rfl (Nat.le_of_ble_eq_true rfl) rfl rfl ⟨Nat.le_of_ble_eq_true rfl, Nat.le_of_ble_eq_true rfl⟩ dX2_pass_9 12 rfl (ws2 := wM cyI cyZ h w_2) rfl (st2 := [.int x3]) rfl ?_
  refine g_if_ne C dX2_pass_12 21 15 (by decide) rfl (fun c5 => ?_) (fun c5 => ?_)
  · have hf := ifn c5 hf
    refine g_aload_n C dX2_pass_21 22 rfl 0 rfl ?_
    refine g_iconst C dX2_pass_22 23 rfl ic_3 ?_
    obtain ⟨x6, e7, hf⟩ := bd1_s hf
    refine g_callV1 C (m_X2_count hfl (h := h) e7) cf_X2_count gX2_pass_X2_count ⟨Nat.le_of_ble_eq_true rfl, Nat.le_of_ble_eq_true rfl⟩ (q0 := 0) (As := [.int 3]) (rest := []) (wl := []) (wr := []) (c2 := 0) (s2 := 0) rfl rfl rfl rfl rfl rfl (Nat.le_of_ble_eq_true rfl) rfl rfl ⟨Nat.le_of_ble_eq_true rfl, Nat.le_of_ble_eq_true rfl⟩ dX2_pass_23 26 rfl (ws2 := wM cyI cyZ h w_2) rfl (st2 := [.int x6]) rfl ?_
    refine g_istore_n C dX2_pass_26 27 rfl (by decide) (lv' := [(2, .int x6), (0, .ref (h 0)), (1, .int a0)]) rfl ?_
    refine g_aload_n C dX2_pass_27 28 rfl 1 rfl ?_
    refine g_iload_n C dX2_pass_28 29 rfl 2 rfl ?_
    obtain ⟨w_8, e9, hf⟩ := bd1_s hf
    refine g_callV1 C (m_X2_minutesOn hfl (h := h) e9) cf_X2_minutesOn gX2_pass_X2_minutesOn ⟨Nat.le_of_ble_eq_true rfl, Nat.le_of_ble_eq_true rfl⟩ (q0 := 0) (As := [.int a0]) (rest := []) (wl := []) (wr := []) (c2 := 0) (s2 := 0) rfl rfl rfl rfl rfl rfl (Nat.le_of_ble_eq_true rfl) rfl rfl ⟨Nat.le_of_ble_eq_true rfl, Nat.le_of_ble_eq_true rfl⟩ dX2_pass_29 32 rfl (ws2 := wM cyI cyZ h w_8) rfl (st2 := []) rfl ?_
    refine g_aload_n C dX2_pass_32 33 rfl 1 rfl ?_
    refine g_iconst C dX2_pass_33 34 rfl ic_3 ?_
    obtain ⟨x10, e11, hf⟩ := bd1_s hf
    refine g_callV1 C (m_X2_count hfl (h := h) e11) cf_X2_count gX2_pass_X2_count ⟨Nat.le_of_ble_eq_true rfl, Nat.le_of_ble_eq_true rfl⟩ (q0 := 0) (As := [.int 3]) (rest := []) (wl := []) (wr := []) (c2 := 0) (s2 := 0) rfl rfl rfl rfl rfl rfl (Nat.le_of_ble_eq_true rfl) rfl rfl ⟨Nat.le_of_ble_eq_true rfl, Nat.le_of_ble_eq_true rfl⟩ dX2_pass_34 37 rfl (ws2 := wM cyI cyZ h w_8) rfl (st2 := [.int x10]) rfl ?_
    refine g_iload_n C dX2_pass_37 38 rfl 0 rfl ?_
    refine g_isub C dX2_pass_38 39 rfl ?_
    refine g_Q hQ ?_
    exact g_iret C hr (by cases hf; rfl) (Nat.le_of_ble_eq_true rfl) (Nat.le_of_ble_eq_true rfl) dX2_pass_39
  · have hf := ifp c5 hf
    refine g_aload_n C dX2_pass_15 16 rfl 0 rfl ?_
    refine g_iconst C dX2_pass_16 17 rfl ic_1 ?_
    obtain ⟨x12, w_13, e14, hf⟩ := bd2_s hf
    refine g_callV1 C (m_X2_fail hfl (h := h) e14) cf_X2_fail gX2_pass_X2_fail ⟨Nat.le_of_ble_eq_true rfl, Nat.le_of_ble_eq_true rfl⟩ (q0 := 0) (As := [.int 1]) (rest := []) (wl := []) (wr := []) (c2 := 0) (s2 := 0) rfl rfl rfl rfl rfl rfl (Nat.le_of_ble_eq_true rfl) rfl rfl ⟨Nat.le_of_ble_eq_true rfl, Nat.le_of_ble_eq_true rfl⟩ dX2_pass_17 20 rfl (ws2 := wM cyI cyZ h w_13) rfl (st2 := [.int x12]) rfl ?_
    refine g_Q hQ ?_
    exact g_iret C hr (by cases hf; rfl) (Nat.le_of_ble_eq_true rfl) (Nat.le_of_ble_eq_true rfl) dX2_pass_20
abbrev rm_X2_minute : Room := { frames := 1, cells := 0, slots := 0, locals := 21 }
theorem cf_X2_minute : CF yX2_minute wsX2_minute rm_X2_minute cX2_minute 1 (some .int) 0 0 0 RX2 := ⟨⟨_, rfl⟩, rfl, rfl, rfl, by decide, by decide, by decide +kernel⟩
set_option maxHeartbeats 4000000 in
set_option maxRecDepth 100000 in
theorem m_X2_minute {l : Launch} (hfl : l.stackTraces = false) {D : va_G} {cyI cyZ cyJ : ClassId} {h : Nat → Nat} {w : S2} {rx : Int32} {rw : S2} (hf : X2_minute w = some (rx, rw)) : Ct ev_s l yX2_minute wsX2_minute rm_X2_minute D (ty3 cyI cyZ cyJ) [.ref (h 0)] (wM cyI cyZ h w) (fun o => o = .inr (some (.int rx), wM cyI cyZ h rw)) 0 0 := by
  refine ct_of (cc := cX2_minute) (nL := 1) (own := RX2) (ret := (some .int)) hfl (by decide) rfl rfl (Nat.le_of_ble_eq_true rfl) (fun p e s m args below meth c A C hr hnm => ?_)
  refine g_setQ (fun Q hQ => ?_)
  have kw0 := Cx.w C (.fieldLink RX2 16 "SleepBorderModel" "now" "[I") (by decide +kernel)
  have iX2 : ∀ w ∈ u_ws RX2 TX2 7, w ∈ wsX2_minute := by decide +kernel
  unfold X2_minute at hf
  refine g_lve (lv' := [(0, .ref (h 0))]) rfl ?_
  refine g_aload_n C dX2_minute_0 1 rfl 0 rfl ?_
  refine g_aload_n C dX2_minute_1 2 rfl 0 rfl ?_
  refine g_get C iX2 0 rfl rfl 4 (by decide) kw0 rfl rfl dX2_minute_2 5 rfl ?_
  refine g_iconst C dX2_minute_5 6 rfl ic_0 ?_
  obtain ⟨x2, e1, hf⟩ := bd1_s hf
  refine g_iald C 3 0 rfl rfl e1 dX2_minute_6 7 rfl ?_
  obtain ⟨x3, w_4, e5, hf⟩ := bd2_s hf
  refine g_callV1 C (m_X2_told hfl (h := h) e5) cf_X2_told gX2_minute_X2_told ⟨Nat.le_of_ble_eq_true rfl, Nat.le_of_ble_eq_true rfl⟩ (q0 := 0) (As := [.int x2]) (rest := []) (wl := []) (wr := []) (c2 := 0) (s2 := 0) rfl rfl rfl rfl rfl rfl (Nat.le_of_ble_eq_true rfl) rfl rfl ⟨Nat.le_of_ble_eq_true rfl, Nat.le_of_ble_eq_true rfl⟩ dX2_minute_7 10 rfl (ws2 := wM cyI cyZ h w_4) rfl (st2 := [.int x3]) rfl ?_
  refine g_Q hQ ?_
  exact g_iret C hr (by cases hf; rfl) (Nat.le_of_ble_eq_true rfl) (Nat.le_of_ble_eq_true rfl) dX2_minute_10
abbrev rm_X2_travellers : Room := { frames := 1, cells := 0, slots := 0, locals := 21 }
theorem cf_X2_travellers : CF yX2_travellers wsX2_travellers rm_X2_travellers cX2_travellers 1 (some .int) 0 0 0 RX2 := ⟨⟨_, rfl⟩, rfl, rfl, rfl, by decide, by decide, by decide +kernel⟩
set_option maxHeartbeats 4000000 in
set_option maxRecDepth 100000 in
theorem m_X2_travellers {l : Launch} (hfl : l.stackTraces = false) {D : va_G} {cyI cyZ cyJ : ClassId} {h : Nat → Nat} {w : S2} {rx : Int32} {rw : S2} (hf : X2_travellers w = some (rx, rw)) : Ct ev_s l yX2_travellers wsX2_travellers rm_X2_travellers D (ty3 cyI cyZ cyJ) [.ref (h 0)] (wM cyI cyZ h w) (fun o => o = .inr (some (.int rx), wM cyI cyZ h rw)) 0 0 := by
  refine ct_of (cc := cX2_travellers) (nL := 1) (own := RX2) (ret := (some .int)) hfl (by decide) rfl rfl (Nat.le_of_ble_eq_true rfl) (fun p e s m args below meth c A C hr hnm => ?_)
  refine g_setQ (fun Q hQ => ?_)
  have kw0 := Cx.w C (.fieldLink RX2 30 "SleepBorderModel" "travellers" "I") (by decide +kernel)
  have iX2 : ∀ w ∈ u_ws RX2 TX2 7, w ∈ wsX2_travellers := by decide +kernel
  unfold X2_travellers at hf
  refine g_lve (lv' := [(0, .ref (h 0))]) rfl ?_
  refine g_aload_n C dX2_travellers_0 1 rfl 0 rfl ?_
  refine g_aload_n C dX2_travellers_1 2 rfl 0 rfl ?_
  refine g_get C iX2 0 rfl rfl 1 (by decide) kw0 rfl rfl dX2_travellers_2 5 rfl ?_
  obtain ⟨x1, w_2, e3, hf⟩ := bd2_s hf
  refine g_callV1 C (m_X2_told hfl (h := h) e3) cf_X2_told gX2_travellers_X2_told ⟨Nat.le_of_ble_eq_true rfl, Nat.le_of_ble_eq_true rfl⟩ (q0 := 0) (As := [.int (w 0 1)]) (rest := []) (wl := []) (wr := []) (c2 := 0) (s2 := 0) rfl rfl rfl rfl rfl rfl (Nat.le_of_ble_eq_true rfl) rfl rfl ⟨Nat.le_of_ble_eq_true rfl, Nat.le_of_ble_eq_true rfl⟩ dX2_travellers_5 8 rfl (ws2 := wM cyI cyZ h w_2) rfl (st2 := [.int x1]) rfl ?_
  refine g_Q hQ ?_
  exact g_iret C hr (by cases hf; rfl) (Nat.le_of_ble_eq_true rfl) (Nat.le_of_ble_eq_true rfl) dX2_travellers_8
abbrev rm_X2_waiting : Room := { frames := 2, cells := 0, slots := 0, locals := 45 }
theorem cf_X2_waiting : CF yX2_waiting wsX2_waiting rm_X2_waiting cX2_waiting 1 (some .int) 0 0 0 RX2 := ⟨⟨_, rfl⟩, rfl, rfl, rfl, by decide, by decide, by decide +kernel⟩
set_option maxHeartbeats 4000000 in
set_option maxRecDepth 100000 in
theorem m_X2_waiting {l : Launch} (hfl : l.stackTraces = false) {D : va_G} {cyI cyZ cyJ : ClassId} {h : Nat → Nat} {w : S2} {rx : Int32} {rw : S2} (hf : X2_waiting w = some (rx, rw)) : Ct ev_s l yX2_waiting wsX2_waiting rm_X2_waiting D (ty3 cyI cyZ cyJ) [.ref (h 0)] (wM cyI cyZ h w) (fun o => o = .inr (some (.int rx), wM cyI cyZ h rw)) 0 0 := by
  refine ct_of (cc := cX2_waiting) (nL := 1) (own := RX2) (ret := (some .int)) hfl (by decide) rfl rfl (Nat.le_of_ble_eq_true rfl) (fun p e s m args below meth c A C hr hnm => ?_)
  refine g_setQ (fun Q hQ => ?_)
  unfold X2_waiting at hf
  refine g_lve (lv' := [(0, .ref (h 0))]) rfl ?_
  refine g_aload_n C dX2_waiting_0 1 rfl 0 rfl ?_
  refine g_aload_n C dX2_waiting_1 2 rfl 0 rfl ?_
  refine g_iconst C dX2_waiting_2 3 rfl ic_0 ?_
  obtain ⟨x1, e2, hf⟩ := bd1_s hf
  refine g_callV1 C (m_X2_count hfl (h := h) e2) cf_X2_count gX2_waiting_X2_count ⟨Nat.le_of_ble_eq_true rfl, Nat.le_of_ble_eq_true rfl⟩ (q0 := 0) (As := [.int 0]) (rest := [.ref (h 0)]) (wl := []) (wr := []) (c2 := 0) (s2 := 0) rfl rfl rfl rfl rfl rfl (Nat.le_of_ble_eq_true rfl) rfl rfl ⟨Nat.le_of_ble_eq_true rfl, Nat.le_of_ble_eq_true rfl⟩ dX2_waiting_3 6 rfl (ws2 := wM cyI cyZ h w) rfl (st2 := [.int x1, .ref (h 0)]) rfl ?_
  obtain ⟨x3, w_4, e5, hf⟩ := bd2_s hf
  refine g_callV1 C (m_X2_told hfl (h := h) e5) cf_X2_told gX2_waiting_X2_told ⟨Nat.le_of_ble_eq_true rfl, Nat.le_of_ble_eq_true rfl⟩ (q0 := 0) (As := [.int x1]) (rest := []) (wl := []) (wr := []) (c2 := 0) (s2 := 0) rfl rfl rfl rfl rfl rfl (Nat.le_of_ble_eq_true rfl) rfl rfl ⟨Nat.le_of_ble_eq_true rfl, Nat.le_of_ble_eq_true rfl⟩ dX2_waiting_6 9 rfl (ws2 := wM cyI cyZ h w_4) rfl (st2 := [.int x3]) rfl ?_
  refine g_Q hQ ?_
  exact g_iret C hr (by cases hf; rfl) (Nat.le_of_ble_eq_true rfl) (Nat.le_of_ble_eq_true rfl) dX2_waiting_9
abbrev rm_X2_asleep : Room := { frames := 2, cells := 0, slots := 0, locals := 45 }
theorem cf_X2_asleep : CF yX2_asleep wsX2_asleep rm_X2_asleep cX2_asleep 1 (some .int) 0 0 0 RX2 := ⟨⟨_, rfl⟩, rfl, rfl, rfl, by decide, by decide, by decide +kernel⟩
set_option maxHeartbeats 4000000 in
set_option maxRecDepth 100000 in
theorem m_X2_asleep {l : Launch} (hfl : l.stackTraces = false) {D : va_G} {cyI cyZ cyJ : ClassId} {h : Nat → Nat} {w : S2} {rx : Int32} {rw : S2} (hf : X2_asleep w = some (rx, rw)) : Ct ev_s l yX2_asleep wsX2_asleep rm_X2_asleep D (ty3 cyI cyZ cyJ) [.ref (h 0)] (wM cyI cyZ h w) (fun o => o = .inr (some (.int rx), wM cyI cyZ h rw)) 0 0 := by
  refine ct_of (cc := cX2_asleep) (nL := 1) (own := RX2) (ret := (some .int)) hfl (by decide) rfl rfl (Nat.le_of_ble_eq_true rfl) (fun p e s m args below meth c A C hr hnm => ?_)
  refine g_setQ (fun Q hQ => ?_)
  unfold X2_asleep at hf
  refine g_lve (lv' := [(0, .ref (h 0))]) rfl ?_
  refine g_aload_n C dX2_asleep_0 1 rfl 0 rfl ?_
  refine g_aload_n C dX2_asleep_1 2 rfl 0 rfl ?_
  refine g_iconst C dX2_asleep_2 3 rfl ic_3 ?_
  obtain ⟨x1, e2, hf⟩ := bd1_s hf
  refine g_callV1 C (m_X2_count hfl (h := h) e2) cf_X2_count gX2_asleep_X2_count ⟨Nat.le_of_ble_eq_true rfl, Nat.le_of_ble_eq_true rfl⟩ (q0 := 0) (As := [.int 3]) (rest := [.ref (h 0)]) (wl := []) (wr := []) (c2 := 0) (s2 := 0) rfl rfl rfl rfl rfl rfl (Nat.le_of_ble_eq_true rfl) rfl rfl ⟨Nat.le_of_ble_eq_true rfl, Nat.le_of_ble_eq_true rfl⟩ dX2_asleep_3 6 rfl (ws2 := wM cyI cyZ h w) rfl (st2 := [.int x1, .ref (h 0)]) rfl ?_
  obtain ⟨x3, w_4, e5, hf⟩ := bd2_s hf
  refine g_callV1 C (m_X2_told hfl (h := h) e5) cf_X2_told gX2_asleep_X2_told ⟨Nat.le_of_ble_eq_true rfl, Nat.le_of_ble_eq_true rfl⟩ (q0 := 0) (As := [.int x1]) (rest := []) (wl := []) (wr := []) (c2 := 0) (s2 := 0) rfl rfl rfl rfl rfl rfl (Nat.le_of_ble_eq_true rfl) rfl rfl ⟨Nat.le_of_ble_eq_true rfl, Nat.le_of_ble_eq_true rfl⟩ dX2_asleep_6 9 rfl (ws2 := wM cyI cyZ h w_4) rfl (st2 := [.int x3]) rfl ?_
  refine g_Q hQ ?_
  exact g_iret C hr (by cases hf; rfl) (Nat.le_of_ble_eq_true rfl) (Nat.le_of_ble_eq_true rfl) dX2_asleep_9
abbrev rm_X2_sentBack : Room := { frames := 2, cells := 0, slots := 0, locals := 45 }
theorem cf_X2_sentBack : CF yX2_sentBack wsX2_sentBack rm_X2_sentBack cX2_sentBack 1 (some .int) 0 0 0 RX2 := ⟨⟨_, rfl⟩, rfl, rfl, rfl, by decide, by decide, by decide +kernel⟩
set_option maxHeartbeats 4000000 in
set_option maxRecDepth 100000 in
theorem m_X2_sentBack {l : Launch} (hfl : l.stackTraces = false) {D : va_G} {cyI cyZ cyJ : ClassId} {h : Nat → Nat} {w : S2} {rx : Int32} {rw : S2} (hf : X2_sentBack w = some (rx, rw)) : Ct ev_s l yX2_sentBack wsX2_sentBack rm_X2_sentBack D (ty3 cyI cyZ cyJ) [.ref (h 0)] (wM cyI cyZ h w) (fun o => o = .inr (some (.int rx), wM cyI cyZ h rw)) 0 0 := by
  refine ct_of (cc := cX2_sentBack) (nL := 1) (own := RX2) (ret := (some .int)) hfl (by decide) rfl rfl (Nat.le_of_ble_eq_true rfl) (fun p e s m args below meth c A C hr hnm => ?_)
  refine g_setQ (fun Q hQ => ?_)
  unfold X2_sentBack at hf
  refine g_lve (lv' := [(0, .ref (h 0))]) rfl ?_
  refine g_aload_n C dX2_sentBack_0 1 rfl 0 rfl ?_
  refine g_aload_n C dX2_sentBack_1 2 rfl 0 rfl ?_
  refine g_iconst C dX2_sentBack_2 3 rfl ic_4 ?_
  obtain ⟨x1, e2, hf⟩ := bd1_s hf
  refine g_callV1 C (m_X2_count hfl (h := h) e2) cf_X2_count gX2_sentBack_X2_count ⟨Nat.le_of_ble_eq_true rfl, Nat.le_of_ble_eq_true rfl⟩ (q0 := 0) (As := [.int 4]) (rest := [.ref (h 0)]) (wl := []) (wr := []) (c2 := 0) (s2 := 0) rfl rfl rfl rfl rfl rfl (Nat.le_of_ble_eq_true rfl) rfl rfl ⟨Nat.le_of_ble_eq_true rfl, Nat.le_of_ble_eq_true rfl⟩ dX2_sentBack_3 6 rfl (ws2 := wM cyI cyZ h w) rfl (st2 := [.int x1, .ref (h 0)]) rfl ?_
  obtain ⟨x3, w_4, e5, hf⟩ := bd2_s hf
  refine g_callV1 C (m_X2_told hfl (h := h) e5) cf_X2_told gX2_sentBack_X2_told ⟨Nat.le_of_ble_eq_true rfl, Nat.le_of_ble_eq_true rfl⟩ (q0 := 0) (As := [.int x1]) (rest := []) (wl := []) (wr := []) (c2 := 0) (s2 := 0) rfl rfl rfl rfl rfl rfl (Nat.le_of_ble_eq_true rfl) rfl rfl ⟨Nat.le_of_ble_eq_true rfl, Nat.le_of_ble_eq_true rfl⟩ dX2_sentBack_6 9 rfl (ws2 := wM cyI cyZ h w_4) rfl (st2 := [.int x3]) rfl ?_
  refine g_Q hQ ?_
  exact g_iret C hr (by cases hf; rfl) (Nat.le_of_ble_eq_true rfl) (Nat.le_of_ble_eq_true rfl) dX2_sentBack_9
abbrev rm_X2_expired : Room := { frames := 1, cells := 0, slots := 0, locals := 21 }
theorem cf_X2_expired : CF yX2_expired wsX2_expired rm_X2_expired cX2_expired 1 (some .int) 0 0 0 RX2 := ⟨⟨_, rfl⟩, rfl, rfl, rfl, by decide, by decide, by decide +kernel⟩
set_option maxHeartbeats 4000000 in
set_option maxRecDepth 100000 in
theorem m_X2_expired {l : Launch} (hfl : l.stackTraces = false) {D : va_G} {cyI cyZ cyJ : ClassId} {h : Nat → Nat} {w : S2} {rx : Int32} {rw : S2} (hf : X2_expired w = some (rx, rw)) : Ct ev_s l yX2_expired wsX2_expired rm_X2_expired D (ty3 cyI cyZ cyJ) [.ref (h 0)] (wM cyI cyZ h w) (fun o => o = .inr (some (.int rx), wM cyI cyZ h rw)) 0 0 := by
  refine ct_of (cc := cX2_expired) (nL := 1) (own := RX2) (ret := (some .int)) hfl (by decide) rfl rfl (Nat.le_of_ble_eq_true rfl) (fun p e s m args below meth c A C hr hnm => ?_)
  refine g_setQ (fun Q hQ => ?_)
  have kw0 := Cx.w C (.fieldLink RX2 16 "SleepBorderModel" "now" "[I") (by decide +kernel)
  have iX2 : ∀ w ∈ u_ws RX2 TX2 7, w ∈ wsX2_expired := by decide +kernel
  unfold X2_expired at hf
  refine g_lve (lv' := [(0, .ref (h 0))]) rfl ?_
  refine g_aload_n C dX2_expired_0 1 rfl 0 rfl ?_
  refine g_aload_n C dX2_expired_1 2 rfl 0 rfl ?_
  refine g_get C iX2 0 rfl rfl 4 (by decide) kw0 rfl rfl dX2_expired_2 5 rfl ?_
  refine g_iconst C dX2_expired_5 6 rfl ic_1 ?_
  obtain ⟨x2, e1, hf⟩ := bd1_s hf
  refine g_iald C 3 0 rfl rfl e1 dX2_expired_6 7 rfl ?_
  obtain ⟨x3, w_4, e5, hf⟩ := bd2_s hf
  refine g_callV1 C (m_X2_told hfl (h := h) e5) cf_X2_told gX2_expired_X2_told ⟨Nat.le_of_ble_eq_true rfl, Nat.le_of_ble_eq_true rfl⟩ (q0 := 0) (As := [.int x2]) (rest := []) (wl := []) (wr := []) (c2 := 0) (s2 := 0) rfl rfl rfl rfl rfl rfl (Nat.le_of_ble_eq_true rfl) rfl rfl ⟨Nat.le_of_ble_eq_true rfl, Nat.le_of_ble_eq_true rfl⟩ dX2_expired_7 10 rfl (ws2 := wM cyI cyZ h w_4) rfl (st2 := [.int x3]) rfl ?_
  refine g_Q hQ ?_
  exact g_iret C hr (by cases hf; rfl) (Nat.le_of_ble_eq_true rfl) (Nat.le_of_ble_eq_true rfl) dX2_expired_10
abbrev rm_X2_paid : Room := { frames := 1, cells := 0, slots := 0, locals := 21 }
theorem cf_X2_paid : CF yX2_paid wsX2_paid rm_X2_paid cX2_paid 1 (some .int) 0 0 0 RX2 := ⟨⟨_, rfl⟩, rfl, rfl, rfl, by decide, by decide, by decide +kernel⟩
set_option maxHeartbeats 4000000 in
set_option maxRecDepth 100000 in
theorem m_X2_paid {l : Launch} (hfl : l.stackTraces = false) {D : va_G} {cyI cyZ cyJ : ClassId} {h : Nat → Nat} {w : S2} {rx : Int32} {rw : S2} (hf : X2_paid w = some (rx, rw)) : Ct ev_s l yX2_paid wsX2_paid rm_X2_paid D (ty3 cyI cyZ cyJ) [.ref (h 0)] (wM cyI cyZ h w) (fun o => o = .inr (some (.int rx), wM cyI cyZ h rw)) 0 0 := by
  refine ct_of (cc := cX2_paid) (nL := 1) (own := RX2) (ret := (some .int)) hfl (by decide) rfl rfl (Nat.le_of_ble_eq_true rfl) (fun p e s m args below meth c A C hr hnm => ?_)
  refine g_setQ (fun Q hQ => ?_)
  have kw0 := Cx.w C (.fieldLink RX2 16 "SleepBorderModel" "now" "[I") (by decide +kernel)
  have iX2 : ∀ w ∈ u_ws RX2 TX2 7, w ∈ wsX2_paid := by decide +kernel
  unfold X2_paid at hf
  refine g_lve (lv' := [(0, .ref (h 0))]) rfl ?_
  refine g_aload_n C dX2_paid_0 1 rfl 0 rfl ?_
  refine g_aload_n C dX2_paid_1 2 rfl 0 rfl ?_
  refine g_get C iX2 0 rfl rfl 4 (by decide) kw0 rfl rfl dX2_paid_2 5 rfl ?_
  refine g_iconst C dX2_paid_5 6 rfl ic_2 ?_
  obtain ⟨x2, e1, hf⟩ := bd1_s hf
  refine g_iald C 3 0 rfl rfl e1 dX2_paid_6 7 rfl ?_
  obtain ⟨x3, w_4, e5, hf⟩ := bd2_s hf
  refine g_callV1 C (m_X2_told hfl (h := h) e5) cf_X2_told gX2_paid_X2_told ⟨Nat.le_of_ble_eq_true rfl, Nat.le_of_ble_eq_true rfl⟩ (q0 := 0) (As := [.int x2]) (rest := []) (wl := []) (wr := []) (c2 := 0) (s2 := 0) rfl rfl rfl rfl rfl rfl (Nat.le_of_ble_eq_true rfl) rfl rfl ⟨Nat.le_of_ble_eq_true rfl, Nat.le_of_ble_eq_true rfl⟩ dX2_paid_7 10 rfl (ws2 := wM cyI cyZ h w_4) rfl (st2 := [.int x3]) rfl ?_
  refine g_Q hQ ?_
  exact g_iret C hr (by cases hf; rfl) (Nat.le_of_ble_eq_true rfl) (Nat.le_of_ble_eq_true rfl) dX2_paid_10
abbrev rm_X2_noise : Room := { frames := 2, cells := 0, slots := 0, locals := 44 }
theorem cf_X2_noise : CF yX2_noise wsX2_noise rm_X2_noise cX2_noise 1 (some .int) 0 0 0 RX2 := ⟨⟨_, rfl⟩, rfl, rfl, rfl, by decide, by decide, by decide +kernel⟩
set_option maxHeartbeats 4000000 in
set_option maxRecDepth 100000 in
theorem m_X2_noise {l : Launch} (hfl : l.stackTraces = false) {D : va_G} {cyI cyZ cyJ : ClassId} {h : Nat → Nat} {w : S2} {rx : Int32} {rw : S2} (hf : X2_noise w = some (rx, rw)) : Ct ev_s l yX2_noise wsX2_noise rm_X2_noise D (ty3 cyI cyZ cyJ) [.ref (h 0)] (wM cyI cyZ h w) (fun o => o = .inr (some (.int rx), wM cyI cyZ h rw)) 0 0 := by
  refine ct_of (cc := cX2_noise) (nL := 1) (own := RX2) (ret := (some .int)) hfl (by decide) rfl rfl (Nat.le_of_ble_eq_true rfl) (fun p e s m args below meth c A C hr hnm => ?_)
  refine g_setQ (fun Q hQ => ?_)
  unfold X2_noise at hf
  refine g_lve (lv' := [(0, .ref (h 0))]) rfl ?_
  refine g_aload_n C dX2_noise_0 1 rfl 0 rfl ?_
  refine g_aload_n C dX2_noise_1 2 rfl 0 rfl ?_
  obtain ⟨x1, e2, hf⟩ := bd1_s hf
  refine g_callV1 C (m_X2_loud hfl (h := h) e2) cf_X2_loud gX2_noise_X2_loud ⟨Nat.le_of_ble_eq_true rfl, Nat.le_of_ble_eq_true rfl⟩ (q0 := 0) (As := []) (rest := [.ref (h 0)]) (wl := []) (wr := []) (c2 := 0) (s2 := 0) rfl rfl rfl rfl rfl rfl (Nat.le_of_ble_eq_true rfl) rfl rfl ⟨Nat.le_of_ble_eq_true rfl, Nat.le_of_ble_eq_true rfl⟩ dX2_noise_2 5 rfl (ws2 := wM cyI cyZ h w) rfl (st2 := [.int x1, .ref (h 0)]) rfl ?_
  obtain ⟨x3, w_4, e5, hf⟩ := bd2_s hf
  refine g_callV1 C (m_X2_told hfl (h := h) e5) cf_X2_told gX2_noise_X2_told ⟨Nat.le_of_ble_eq_true rfl, Nat.le_of_ble_eq_true rfl⟩ (q0 := 0) (As := [.int x1]) (rest := []) (wl := []) (wr := []) (c2 := 0) (s2 := 0) rfl rfl rfl rfl rfl rfl (Nat.le_of_ble_eq_true rfl) rfl rfl ⟨Nat.le_of_ble_eq_true rfl, Nat.le_of_ble_eq_true rfl⟩ dX2_noise_5 8 rfl (ws2 := wM cyI cyZ h w_4) rfl (st2 := [.int x3]) rfl ?_
  refine g_Q hQ ?_
  exact g_iret C hr (by cases hf; rfl) (Nat.le_of_ble_eq_true rfl) (Nat.le_of_ble_eq_true rfl) dX2_noise_8
abbrev rm_X2_nextInLine : Room := { frames := 2, cells := 0, slots := 0, locals := 43 }
theorem cf_X2_nextInLine : CF yX2_nextInLine wsX2_nextInLine rm_X2_nextInLine cX2_nextInLine 1 (some .int) 0 0 0 RX2 := ⟨⟨_, rfl⟩, rfl, rfl, rfl, by decide, by decide, by decide +kernel⟩
set_option maxHeartbeats 4000000 in
set_option maxRecDepth 100000 in
theorem m_X2_nextInLine {l : Launch} (hfl : l.stackTraces = false) {D : va_G} {cyI cyZ cyJ : ClassId} {h : Nat → Nat} {w : S2} {rx : Int32} {rw : S2} (hf : X2_nextInLine w = some (rx, rw)) : Ct ev_s l yX2_nextInLine wsX2_nextInLine rm_X2_nextInLine D (ty3 cyI cyZ cyJ) [.ref (h 0)] (wM cyI cyZ h w) (fun o => o = .inr (some (.int rx), wM cyI cyZ h rw)) 0 0 := by
  refine ct_of (cc := cX2_nextInLine) (nL := 1) (own := RX2) (ret := (some .int)) hfl (by decide) rfl rfl (Nat.le_of_ble_eq_true rfl) (fun p e s m args below meth c A C hr hnm => ?_)
  refine g_setQ (fun Q hQ => ?_)
  unfold X2_nextInLine at hf
  refine g_lve (lv' := [(0, .ref (h 0))]) rfl ?_
  refine g_aload_n C dX2_nextInLine_0 1 rfl 0 rfl ?_
  refine g_aload_n C dX2_nextInLine_1 2 rfl 0 rfl ?_
  obtain ⟨x1, e2, hf⟩ := bd1_s hf
  refine g_callV1 C (m_X2_first hfl (h := h) e2) cf_X2_first gX2_nextInLine_X2_first ⟨Nat.le_of_ble_eq_true rfl, Nat.le_of_ble_eq_true rfl⟩ (q0 := 0) (As := []) (rest := [.ref (h 0)]) (wl := []) (wr := []) (c2 := 0) (s2 := 0) rfl rfl rfl rfl rfl rfl (Nat.le_of_ble_eq_true rfl) rfl rfl ⟨Nat.le_of_ble_eq_true rfl, Nat.le_of_ble_eq_true rfl⟩ dX2_nextInLine_2 5 rfl (ws2 := wM cyI cyZ h w) rfl (st2 := [.int x1, .ref (h 0)]) rfl ?_
  obtain ⟨x3, w_4, e5, hf⟩ := bd2_s hf
  refine g_callV1 C (m_X2_told hfl (h := h) e5) cf_X2_told gX2_nextInLine_X2_told ⟨Nat.le_of_ble_eq_true rfl, Nat.le_of_ble_eq_true rfl⟩ (q0 := 0) (As := [.int x1]) (rest := []) (wl := []) (wr := []) (c2 := 0) (s2 := 0) rfl rfl rfl rfl rfl rfl (Nat.le_of_ble_eq_true rfl) rfl rfl ⟨Nat.le_of_ble_eq_true rfl, Nat.le_of_ble_eq_true rfl⟩ dX2_nextInLine_5 8 rfl (ws2 := wM cyI cyZ h w_4) rfl (st2 := [.int x3]) rfl ?_
  refine g_Q hQ ?_
  exact g_iret C hr (by cases hf; rfl) (Nat.le_of_ble_eq_true rfl) (Nat.le_of_ble_eq_true rfl) dX2_nextInLine_8
abbrev rm_X2_stateOf : Room := { frames := 2, cells := 0, slots := 0, locals := 43 }
theorem cf_X2_stateOf : CF yX2_stateOf wsX2_stateOf rm_X2_stateOf cX2_stateOf 2 (some .int) 1 0 0 RX2 := ⟨⟨_, rfl⟩, rfl, rfl, rfl, by decide, by decide, by decide +kernel⟩
set_option maxHeartbeats 4000000 in
set_option maxRecDepth 100000 in
theorem m_X2_stateOf {l : Launch} (hfl : l.stackTraces = false) {D : va_G} {cyI cyZ cyJ : ClassId} {h : Nat → Nat} {w : S2} {a0 : Int32} {rx : Int32} {rw : S2} (hf : X2_stateOf w a0 = some (rx, rw)) : Ct ev_s l yX2_stateOf wsX2_stateOf rm_X2_stateOf D (ty3 cyI cyZ cyJ) [.ref (h 0), .int a0] (wM cyI cyZ h w) (fun o => o = .inr (some (.int rx), wM cyI cyZ h rw)) 0 0 := by
  refine ct_of (cc := cX2_stateOf) (nL := 2) (own := RX2) (ret := (some .int)) hfl (by decide) rfl rfl (Nat.le_of_ble_eq_true rfl) (fun p e s m args below meth c A C hr hnm => ?_)
  refine g_setQ (fun Q hQ => ?_)
  have kw0 := Cx.w C (.fieldLink RX2 26 "SleepBorderModel" "thrown" "I") (by decide +kernel)
  have iX2 : ∀ w ∈ u_ws RX2 TX2 7, w ∈ wsX2_stateOf := by decide +kernel
  unfold X2_stateOf at hf
  refine g_lve (lv' := [(0, .ref (h 0)), (1, .int a0)]) rfl ?_
  refine g_aload_n C dX2_stateOf_0 1 rfl 0 rfl ?_
  refine g_iconst C dX2_stateOf_1 2 rfl ic_0 ?_
  obtain ⟨w_2, e1, hf⟩ := bd1_s hf
  refine g_put C iX2 tyX2 tyX2_ok nmX2 0 rfl rfl 0 (by decide) kw0 rfl rfl rfl (Nat.le_of_ble_eq_true rfl) (st_34 (cyI := cyI) (cyZ := cyZ) (cyJ := cyJ) e1) dX2_stateOf_2 5 rfl ?_
  refine g_aload_n C dX2_stateOf_5 6 rfl 0 rfl ?_
  refine g_iload_n C dX2_stateOf_6 7 rfl 1 rfl ?_
  obtain ⟨x3, e4, hf⟩ := bd1_s hf
  refine g_callV1 C (m_X2_isTraveller hfl (h := h) e4) cf_X2_isTraveller gX2_stateOf_X2_isTraveller ⟨Nat.le_of_ble_eq_true rfl, Nat.le_of_ble_eq_true rfl⟩ (q0 := 0) (As := [.int a0]) (rest := []) (wl := []) (wr := []) (c2 := 0) (s2 := 0) rfl rfl rfl rfl rfl rfl (Nat.le_of_ble_eq_true rfl) rfl rfl ⟨Nat.le_of_ble_eq_true rfl, Nat.le_of_ble_eq_true rfl⟩ dX2_stateOf_7 10 rfl (ws2 := wM cyI cyZ h w_2) rfl (st2 := [.int x3]) rfl ?_
  refine g_if_eq C dX2_stateOf_10 22 13 (by decide) rfl (fun c5 => ?_) (fun c5 => ?_)
  · have hf := ifp c5 hf
    refine g_aload_n C dX2_stateOf_22 23 rfl 0 rfl ?_
    refine g_iconst C dX2_stateOf_23 24 rfl ic_1 ?_
    obtain ⟨x6, w_7, e8, hf⟩ := bd2_s hf
    refine g_callV1 C (m_X2_fail hfl (h := h) e8) cf_X2_fail gX2_stateOf_X2_fail ⟨Nat.le_of_ble_eq_true rfl, Nat.le_of_ble_eq_true rfl⟩ (q0 := 0) (As := [.int 1]) (rest := []) (wl := []) (wr := []) (c2 := 0) (s2 := 0) rfl rfl rfl rfl rfl rfl (Nat.le_of_ble_eq_true rfl) rfl rfl ⟨Nat.le_of_ble_eq_true rfl, Nat.le_of_ble_eq_true rfl⟩ dX2_stateOf_24 27 rfl (ws2 := wM cyI cyZ h w_7) rfl (st2 := [.int x6]) rfl ?_
    refine g_Q hQ ?_
    exact g_iret C hr (by cases hf; rfl) (Nat.le_of_ble_eq_true rfl) (Nat.le_of_ble_eq_true rfl) dX2_stateOf_27
  · have hf := ifn c5 hf
    refine g_aload_n C dX2_stateOf_13 14 rfl 0 rfl ?_
    refine g_iload_n C dX2_stateOf_14 15 rfl 1 rfl ?_
    refine g_iconst C dX2_stateOf_15 16 rfl ic_0 ?_
    obtain ⟨x9, e10, hf⟩ := bd1_s hf
    refine g_callV1 C (m_X2_tr hfl (h := h) e10) cf_X2_tr gX2_stateOf_X2_tr ⟨Nat.le_of_ble_eq_true rfl, Nat.le_of_ble_eq_true rfl⟩ (q0 := 0) (As := [.int a0, .int 0]) (rest := []) (wl := []) (wr := []) (c2 := 0) (s2 := 0) rfl rfl rfl rfl rfl rfl (Nat.le_of_ble_eq_true rfl) rfl rfl ⟨Nat.le_of_ble_eq_true rfl, Nat.le_of_ble_eq_true rfl⟩ dX2_stateOf_16 19 rfl (ws2 := wM cyI cyZ h w_2) rfl (st2 := [.int x9]) rfl ?_
    refine g_goto C dX2_stateOf_19 27 (by decide) ?_
    refine g_Q hQ ?_
    exact g_iret C hr (by cases hf; rfl) (Nat.le_of_ble_eq_true rfl) (Nat.le_of_ble_eq_true rfl) dX2_stateOf_27
abbrev rm_X2_hiddenOf : Room := { frames := 2, cells := 0, slots := 0, locals := 43 }
theorem cf_X2_hiddenOf : CF yX2_hiddenOf wsX2_hiddenOf rm_X2_hiddenOf cX2_hiddenOf 2 (some .int) 1 0 0 RX2 := ⟨⟨_, rfl⟩, rfl, rfl, rfl, by decide, by decide, by decide +kernel⟩
set_option maxHeartbeats 4000000 in
set_option maxRecDepth 100000 in
theorem m_X2_hiddenOf {l : Launch} (hfl : l.stackTraces = false) {D : va_G} {cyI cyZ cyJ : ClassId} {h : Nat → Nat} {w : S2} {a0 : Int32} {rx : Int32} {rw : S2} (hf : X2_hiddenOf w a0 = some (rx, rw)) : Ct ev_s l yX2_hiddenOf wsX2_hiddenOf rm_X2_hiddenOf D (ty3 cyI cyZ cyJ) [.ref (h 0), .int a0] (wM cyI cyZ h w) (fun o => o = .inr (some (.int rx), wM cyI cyZ h rw)) 0 0 := by
  refine ct_of (cc := cX2_hiddenOf) (nL := 2) (own := RX2) (ret := (some .int)) hfl (by decide) rfl rfl (Nat.le_of_ble_eq_true rfl) (fun p e s m args below meth c A C hr hnm => ?_)
  refine g_setQ (fun Q hQ => ?_)
  have kw0 := Cx.w C (.fieldLink RX2 26 "SleepBorderModel" "thrown" "I") (by decide +kernel)
  have iX2 : ∀ w ∈ u_ws RX2 TX2 7, w ∈ wsX2_hiddenOf := by decide +kernel
  unfold X2_hiddenOf at hf
  refine g_lve (lv' := [(0, .ref (h 0)), (1, .int a0)]) rfl ?_
  refine g_aload_n C dX2_hiddenOf_0 1 rfl 0 rfl ?_
  refine g_iconst C dX2_hiddenOf_1 2 rfl ic_0 ?_
  obtain ⟨w_2, e1, hf⟩ := bd1_s hf
  refine g_put C iX2 tyX2 tyX2_ok nmX2 0 rfl rfl 0 (by decide) kw0 rfl rfl rfl (Nat.le_of_ble_eq_true rfl) (st_34 (cyI := cyI) (cyZ := cyZ) (cyJ := cyJ) e1) dX2_hiddenOf_2 5 rfl ?_
  refine g_aload_n C dX2_hiddenOf_5 6 rfl 0 rfl ?_
  refine g_iload_n C dX2_hiddenOf_6 7 rfl 1 rfl ?_
  obtain ⟨x3, e4, hf⟩ := bd1_s hf
  refine g_callV1 C (m_X2_isTraveller hfl (h := h) e4) cf_X2_isTraveller gX2_hiddenOf_X2_isTraveller ⟨Nat.le_of_ble_eq_true rfl, Nat.le_of_ble_eq_true rfl⟩ (q0 := 0) (As := [.int a0]) (rest := []) (wl := []) (wr := []) (c2 := 0) (s2 := 0) rfl rfl rfl rfl rfl rfl (Nat.le_of_ble_eq_true rfl) rfl rfl ⟨Nat.le_of_ble_eq_true rfl, Nat.le_of_ble_eq_true rfl⟩ dX2_hiddenOf_7 10 rfl (ws2 := wM cyI cyZ h w_2) rfl (st2 := [.int x3]) rfl ?_
  refine g_if_eq C dX2_hiddenOf_10 21 13 (by decide) rfl (fun c5 => ?_) (fun c5 => ?_)
  · have hf := ifp c5 hf
    refine g_aload_n C dX2_hiddenOf_21 22 rfl 0 rfl ?_
    refine g_iconst C dX2_hiddenOf_22 23 rfl ic_1 ?_
    obtain ⟨x6, w_7, e8, hf⟩ := bd2_s hf
    refine g_callV1 C (m_X2_fail hfl (h := h) e8) cf_X2_fail gX2_hiddenOf_X2_fail ⟨Nat.le_of_ble_eq_true rfl, Nat.le_of_ble_eq_true rfl⟩ (q0 := 0) (As := [.int 1]) (rest := []) (wl := []) (wr := []) (c2 := 0) (s2 := 0) rfl rfl rfl rfl rfl rfl (Nat.le_of_ble_eq_true rfl) rfl rfl ⟨Nat.le_of_ble_eq_true rfl, Nat.le_of_ble_eq_true rfl⟩ dX2_hiddenOf_23 26 rfl (ws2 := wM cyI cyZ h w_7) rfl (st2 := [.int x6]) rfl ?_
    refine g_Q hQ ?_
    exact g_iret C hr (by cases hf; rfl) (Nat.le_of_ble_eq_true rfl) (Nat.le_of_ble_eq_true rfl) dX2_hiddenOf_26
  · have hf := ifn c5 hf
    refine g_aload_n C dX2_hiddenOf_13 14 rfl 0 rfl ?_
    refine g_iload_n C dX2_hiddenOf_14 15 rfl 1 rfl ?_
    obtain ⟨x9, e10, hf⟩ := bd1_s hf
    refine g_callV1 C (m_X2_hidden hfl (h := h) e10) cf_X2_hidden gX2_hiddenOf_X2_hidden ⟨Nat.le_of_ble_eq_true rfl, Nat.le_of_ble_eq_true rfl⟩ (q0 := 0) (As := [.int a0]) (rest := []) (wl := []) (wr := []) (c2 := 0) (s2 := 0) rfl rfl rfl rfl rfl rfl (Nat.le_of_ble_eq_true rfl) rfl rfl ⟨Nat.le_of_ble_eq_true rfl, Nat.le_of_ble_eq_true rfl⟩ dX2_hiddenOf_15 18 rfl (ws2 := wM cyI cyZ h w_2) rfl (st2 := [.int x9]) rfl ?_
    refine g_goto C dX2_hiddenOf_18 26 (by decide) ?_
    refine g_Q hQ ?_
    exact g_iret C hr (by cases hf; rfl) (Nat.le_of_ble_eq_true rfl) (Nat.le_of_ble_eq_true rfl) dX2_hiddenOf_26
abbrev rm_X2_lullabyOf : Room := { frames := 2, cells := 0, slots := 0, locals := 43 }
theorem cf_X2_lullabyOf : CF yX2_lullabyOf wsX2_lullabyOf rm_X2_lullabyOf cX2_lullabyOf 2 (some .int) 1 0 0 RX2 := ⟨⟨_, rfl⟩, rfl, rfl, rfl, by decide, by decide, by decide +kernel⟩
set_option maxHeartbeats 4000000 in
set_option maxRecDepth 100000 in
theorem m_X2_lullabyOf {l : Launch} (hfl : l.stackTraces = false) {D : va_G} {cyI cyZ cyJ : ClassId} {h : Nat → Nat} {w : S2} {a0 : Int32} {rx : Int32} {rw : S2} (hf : X2_lullabyOf w a0 = some (rx, rw)) : Ct ev_s l yX2_lullabyOf wsX2_lullabyOf rm_X2_lullabyOf D (ty3 cyI cyZ cyJ) [.ref (h 0), .int a0] (wM cyI cyZ h w) (fun o => o = .inr (some (.int rx), wM cyI cyZ h rw)) 0 0 := by
  refine ct_of (cc := cX2_lullabyOf) (nL := 2) (own := RX2) (ret := (some .int)) hfl (by decide) rfl rfl (Nat.le_of_ble_eq_true rfl) (fun p e s m args below meth c A C hr hnm => ?_)
  refine g_setQ (fun Q hQ => ?_)
  have kw0 := Cx.w C (.fieldLink RX2 26 "SleepBorderModel" "thrown" "I") (by decide +kernel)
  have iX2 : ∀ w ∈ u_ws RX2 TX2 7, w ∈ wsX2_lullabyOf := by decide +kernel
  unfold X2_lullabyOf at hf
  refine g_lve (lv' := [(0, .ref (h 0)), (1, .int a0)]) rfl ?_
  refine g_aload_n C dX2_lullabyOf_0 1 rfl 0 rfl ?_
  refine g_iconst C dX2_lullabyOf_1 2 rfl ic_0 ?_
  obtain ⟨w_2, e1, hf⟩ := bd1_s hf
  refine g_put C iX2 tyX2 tyX2_ok nmX2 0 rfl rfl 0 (by decide) kw0 rfl rfl rfl (Nat.le_of_ble_eq_true rfl) (st_34 (cyI := cyI) (cyZ := cyZ) (cyJ := cyJ) e1) dX2_lullabyOf_2 5 rfl ?_
  refine g_aload_n C dX2_lullabyOf_5 6 rfl 0 rfl ?_
  refine g_iload_n C dX2_lullabyOf_6 7 rfl 1 rfl ?_
  obtain ⟨x3, e4, hf⟩ := bd1_s hf
  refine g_callV1 C (m_X2_isTraveller hfl (h := h) e4) cf_X2_isTraveller gX2_lullabyOf_X2_isTraveller ⟨Nat.le_of_ble_eq_true rfl, Nat.le_of_ble_eq_true rfl⟩ (q0 := 0) (As := [.int a0]) (rest := []) (wl := []) (wr := []) (c2 := 0) (s2 := 0) rfl rfl rfl rfl rfl rfl (Nat.le_of_ble_eq_true rfl) rfl rfl ⟨Nat.le_of_ble_eq_true rfl, Nat.le_of_ble_eq_true rfl⟩ dX2_lullabyOf_7 10 rfl (ws2 := wM cyI cyZ h w_2) rfl (st2 := [.int x3]) rfl ?_
  refine g_if_eq C dX2_lullabyOf_10 22 13 (by decide) rfl (fun c5 => ?_) (fun c5 => ?_)
  · have hf := ifp c5 hf
    refine g_aload_n C dX2_lullabyOf_22 23 rfl 0 rfl ?_
    refine g_iconst C dX2_lullabyOf_23 24 rfl ic_1 ?_
    obtain ⟨x6, w_7, e8, hf⟩ := bd2_s hf
    refine g_callV1 C (m_X2_fail hfl (h := h) e8) cf_X2_fail gX2_lullabyOf_X2_fail ⟨Nat.le_of_ble_eq_true rfl, Nat.le_of_ble_eq_true rfl⟩ (q0 := 0) (As := [.int 1]) (rest := []) (wl := []) (wr := []) (c2 := 0) (s2 := 0) rfl rfl rfl rfl rfl rfl (Nat.le_of_ble_eq_true rfl) rfl rfl ⟨Nat.le_of_ble_eq_true rfl, Nat.le_of_ble_eq_true rfl⟩ dX2_lullabyOf_24 27 rfl (ws2 := wM cyI cyZ h w_7) rfl (st2 := [.int x6]) rfl ?_
    refine g_Q hQ ?_
    exact g_iret C hr (by cases hf; rfl) (Nat.le_of_ble_eq_true rfl) (Nat.le_of_ble_eq_true rfl) dX2_lullabyOf_27
  · have hf := ifn c5 hf
    refine g_aload_n C dX2_lullabyOf_13 14 rfl 0 rfl ?_
    refine g_iload_n C dX2_lullabyOf_14 15 rfl 1 rfl ?_
    refine g_iconst C dX2_lullabyOf_15 16 rfl ic_1 ?_
    obtain ⟨x9, e10, hf⟩ := bd1_s hf
    refine g_callV1 C (m_X2_tr hfl (h := h) e10) cf_X2_tr gX2_lullabyOf_X2_tr ⟨Nat.le_of_ble_eq_true rfl, Nat.le_of_ble_eq_true rfl⟩ (q0 := 0) (As := [.int a0, .int 1]) (rest := []) (wl := []) (wr := []) (c2 := 0) (s2 := 0) rfl rfl rfl rfl rfl rfl (Nat.le_of_ble_eq_true rfl) rfl rfl ⟨Nat.le_of_ble_eq_true rfl, Nat.le_of_ble_eq_true rfl⟩ dX2_lullabyOf_16 19 rfl (ws2 := wM cyI cyZ h w_2) rfl (st2 := [.int x9]) rfl ?_
    refine g_goto C dX2_lullabyOf_19 27 (by decide) ?_
    refine g_Q hQ ?_
    exact g_iret C hr (by cases hf; rfl) (Nat.le_of_ble_eq_true rfl) (Nat.le_of_ble_eq_true rfl) dX2_lullabyOf_27
abbrev rm_X2_place : Room := { frames := 1, cells := 0, slots := 0, locals := 22 }
theorem cf_X2_place : CF yX2_place wsX2_place rm_X2_place cX2_place 4 (some .int) 1 0 0 RX2 := ⟨⟨_, rfl⟩, rfl, rfl, rfl, by decide, by decide, by decide +kernel⟩
set_option maxHeartbeats 4000000 in
set_option maxRecDepth 100000 in
theorem m_X2_place {l : Launch} (hfl : l.stackTraces = false) {D : va_G} {cyI cyZ cyJ : ClassId} {h : Nat → Nat} {w : S2} {a0 : Int32} {rx : Int32} (hf : X2_place w a0 = some rx) : Ct ev_s l yX2_place wsX2_place rm_X2_place D (ty3 cyI cyZ cyJ) [.ref (h 0), .int a0] (wM cyI cyZ h w) (fun o => o = .inr (some (.int rx), wM cyI cyZ h w)) 0 0 := by
  refine ct_of (cc := cX2_place) (nL := 4) (own := RX2) (ret := (some .int)) hfl (by decide) rfl rfl (Nat.le_of_ble_eq_true rfl) (fun p e s m args below meth c A C hr hnm => ?_)
  refine g_setQ (fun Q hQ => ?_)
  have L15 : ∀ (l1 : Int32) (n : Nat) (l2 : Int32) (l3 : Int32), X2_place_L15 l1 w n l2 l3 = some rx → Gq p l e rm_X2_place s m args below meth c D A 4 Q (wM cyI cyZ h w) 0 0 15 [(0, .ref (h 0)), (1, .int l1), (2, .int l2), (3, .int l3)] [] := by
    intro l1 n
    induction n with
    | zero => intro l2 l3 hf; simp [X2_place_L15] at hf
    | succ n ih =>
      intro l2 l3 hf
      rw [X2_place_L15] at hf
      refine g_iload_n C dX2_place_15 16 rfl 3 rfl ?_
      refine g_iload_n C dX2_place_16 17 rfl 1 rfl ?_
      refine g_icmp_ge C dX2_place_17 43 20 (by decide) rfl (fun c4 => ?_) (fun c4 => ?_)
      · have hf := ifp c4 hf
        refine g_iload_n C dX2_place_43 44 rfl 2 rfl ?_
        refine g_Q hQ ?_
        exact g_iret C hr (by cases hf; rfl) (Nat.le_of_ble_eq_true rfl) (Nat.le_of_ble_eq_true rfl) dX2_place_44
      · have hf := ifn c4 hf
        refine g_iload_n C dX2_place_20 21 rfl 2 rfl ?_
        refine g_aload_n C dX2_place_21 22 rfl 0 rfl ?_
        refine g_iload_n C dX2_place_22 23 rfl 3 rfl ?_
        refine g_iconst C dX2_place_23 24 rfl ic_0 ?_
        obtain ⟨x5, e6, hf⟩ := bd1_s hf
        refine g_callV1 C (m_X2_tr hfl (h := h) e6) cf_X2_tr gX2_place_X2_tr ⟨Nat.le_of_ble_eq_true rfl, Nat.le_of_ble_eq_true rfl⟩ (q0 := 0) (As := [.int l3, .int 0]) (rest := [.int l2]) (wl := []) (wr := []) (c2 := 0) (s2 := 0) rfl rfl rfl rfl rfl rfl (Nat.le_of_ble_eq_true rfl) rfl rfl ⟨Nat.le_of_ble_eq_true rfl, Nat.le_of_ble_eq_true rfl⟩ dX2_place_24 27 rfl (ws2 := wM cyI cyZ h w) rfl (st2 := [.int x5, .int l2]) rfl ?_
        refine g_if_ne C dX2_place_27 34 30 (by decide) rfl (fun c7 => ?_) (fun c7 => ?_)
        · have hf := ifn c7 hf
          refine g_iconst C dX2_place_34 35 rfl ic_0 ?_
          refine g_iadd C dX2_place_35 36 rfl ?_
          refine g_istore_n C dX2_place_36 37 rfl (by decide) (lv' := [(2, .int (l2 + 0)), (0, .ref (h 0)), (1, .int l1), (3, .int l3)]) rfl ?_
          refine g_iinc C dX2_place_37 40 rfl 3 rfl (ii_1 _) (by decide) (lv' := [(3, .int (l3 + 1)), (2, .int (l2 + 0)), (0, .ref (h 0)), (1, .int l1)]) rfl ?_
          refine g_goto C dX2_place_40 15 (by decide) ?_
          refine g_lv [2, 3, 1, 0] (lv' := [(0, .ref (h 0)), (1, .int l1), (2, .int (l2 + 0)), (3, .int (l3 + 1))]) rfl ?_
          exact ih (l2 + 0) (l3 + 1) hf
        · have hf := ifp c7 hf
          refine g_iconst C dX2_place_30 31 rfl ic_1 ?_
          refine g_goto C dX2_place_31 35 (by decide) ?_
          refine g_iadd C dX2_place_35 36 rfl ?_
          refine g_istore_n C dX2_place_36 37 rfl (by decide) (lv' := [(2, .int (l2 + 1)), (0, .ref (h 0)), (1, .int l1), (3, .int l3)]) rfl ?_
          refine g_iinc C dX2_place_37 40 rfl 3 rfl (ii_1 _) (by decide) (lv' := [(3, .int (l3 + 1)), (2, .int (l2 + 1)), (0, .ref (h 0)), (1, .int l1)]) rfl ?_
          refine g_goto C dX2_place_40 15 (by decide) ?_
          refine g_lv [2, 3, 1, 0] (lv' := [(0, .ref (h 0)), (1, .int l1), (2, .int (l2 + 1)), (3, .int (l3 + 1))]) rfl ?_
          exact ih (l2 + 1) (l3 + 1) hf
  unfold X2_place at hf
  refine g_lve (lv' := [(0, .ref (h 0)), (1, .int a0)]) rfl ?_
  refine g_aload_n C dX2_place_0 1 rfl 0 rfl ?_
  refine g_iload_n C dX2_place_1 2 rfl 1 rfl ?_
  refine g_iconst C dX2_place_2 3 rfl ic_0 ?_
  obtain ⟨x1, e2, hf⟩ := bd1_s hf
  refine g_callV1 C (m_X2_tr hfl (h := h) e2) cf_X2_tr gX2_place_X2_tr ⟨Nat.le_of_ble_eq_true rfl, Nat.le_of_ble_eq_true rfl⟩ (q0 := 0) (As := [.int a0, .int 0]) (rest := []) (wl := []) (wr := []) (c2 := 0) (s2 := 0) rfl rfl rfl rfl rfl rfl (Nat.le_of_ble_eq_true rfl) rfl rfl ⟨Nat.le_of_ble_eq_true rfl, Nat.le_of_ble_eq_true rfl⟩ dX2_place_3 6 rfl (ws2 := wM cyI cyZ h w) rfl (st2 := [.int x1]) rfl ?_
  refine g_if_eq C dX2_place_6 11 9 (by decide) rfl (fun c3 => ?_) (fun c3 => ?_)
  · have hf := ifp c3 hf
    refine g_iconst C dX2_place_11 12 rfl ic_0 ?_
    refine g_istore_n C dX2_place_12 13 rfl (by decide) (lv' := [(2, .int 0), (0, .ref (h 0)), (1, .int a0)]) rfl ?_
    refine g_iconst C dX2_place_13 14 rfl ic_0 ?_
    refine g_istore_n C dX2_place_14 15 rfl (by decide) (lv' := [(3, .int 0), (2, .int 0), (0, .ref (h 0)), (1, .int a0)]) rfl ?_
    refine g_lv [2, 3, 1, 0] (lv' := [(0, .ref (h 0)), (1, .int a0), (2, .int 0), (3, .int 0)]) rfl ?_
    exact L15 a0 200 0 0 hf
  · have hf := ifn c3 hf
    refine g_iconst C dX2_place_9 10 rfl ic_m1 ?_
    refine g_Q hQ ?_
    exact g_iret C hr (by cases hf; rfl) (Nat.le_of_ble_eq_true rfl) (Nat.le_of_ble_eq_true rfl) dX2_place_10
abbrev rm_X2_placeInLine : Room := { frames := 2, cells := 0, slots := 0, locals := 45 }
theorem cf_X2_placeInLine : CF yX2_placeInLine wsX2_placeInLine rm_X2_placeInLine cX2_placeInLine 2 (some .int) 1 0 0 RX2 := ⟨⟨_, rfl⟩, rfl, rfl, rfl, by decide, by decide, by decide +kernel⟩
set_option maxHeartbeats 4000000 in
set_option maxRecDepth 100000 in
theorem m_X2_placeInLine {l : Launch} (hfl : l.stackTraces = false) {D : va_G} {cyI cyZ cyJ : ClassId} {h : Nat → Nat} {w : S2} {a0 : Int32} {rx : Int32} {rw : S2} (hf : X2_placeInLine w a0 = some (rx, rw)) : Ct ev_s l yX2_placeInLine wsX2_placeInLine rm_X2_placeInLine D (ty3 cyI cyZ cyJ) [.ref (h 0), .int a0] (wM cyI cyZ h w) (fun o => o = .inr (some (.int rx), wM cyI cyZ h rw)) 0 0 := by
  refine ct_of (cc := cX2_placeInLine) (nL := 2) (own := RX2) (ret := (some .int)) hfl (by decide) rfl rfl (Nat.le_of_ble_eq_true rfl) (fun p e s m args below meth c A C hr hnm => ?_)
  refine g_setQ (fun Q hQ => ?_)
  have kw0 := Cx.w C (.fieldLink RX2 26 "SleepBorderModel" "thrown" "I") (by decide +kernel)
  have iX2 : ∀ w ∈ u_ws RX2 TX2 7, w ∈ wsX2_placeInLine := by decide +kernel
  unfold X2_placeInLine at hf
  refine g_lve (lv' := [(0, .ref (h 0)), (1, .int a0)]) rfl ?_
  refine g_aload_n C dX2_placeInLine_0 1 rfl 0 rfl ?_
  refine g_iconst C dX2_placeInLine_1 2 rfl ic_0 ?_
  obtain ⟨w_2, e1, hf⟩ := bd1_s hf
  refine g_put C iX2 tyX2 tyX2_ok nmX2 0 rfl rfl 0 (by decide) kw0 rfl rfl rfl (Nat.le_of_ble_eq_true rfl) (st_34 (cyI := cyI) (cyZ := cyZ) (cyJ := cyJ) e1) dX2_placeInLine_2 5 rfl ?_
  refine g_aload_n C dX2_placeInLine_5 6 rfl 0 rfl ?_
  refine g_iload_n C dX2_placeInLine_6 7 rfl 1 rfl ?_
  obtain ⟨x3, e4, hf⟩ := bd1_s hf
  refine g_callV1 C (m_X2_isTraveller hfl (h := h) e4) cf_X2_isTraveller gX2_placeInLine_X2_isTraveller ⟨Nat.le_of_ble_eq_true rfl, Nat.le_of_ble_eq_true rfl⟩ (q0 := 0) (As := [.int a0]) (rest := []) (wl := []) (wr := []) (c2 := 0) (s2 := 0) rfl rfl rfl rfl rfl rfl (Nat.le_of_ble_eq_true rfl) rfl rfl ⟨Nat.le_of_ble_eq_true rfl, Nat.le_of_ble_eq_true rfl⟩ dX2_placeInLine_7 10 rfl (ws2 := wM cyI cyZ h w_2) rfl (st2 := [.int x3]) rfl ?_
  refine g_if_eq C dX2_placeInLine_10 21 13 (by decide) rfl (fun c5 => ?_) (fun c5 => ?_)
  · have hf := ifp c5 hf
    refine g_aload_n C dX2_placeInLine_21 22 rfl 0 rfl ?_
    refine g_iconst C dX2_placeInLine_22 23 rfl ic_1 ?_
    obtain ⟨x6, w_7, e8, hf⟩ := bd2_s hf
    refine g_callV1 C (m_X2_fail hfl (h := h) e8) cf_X2_fail gX2_placeInLine_X2_fail ⟨Nat.le_of_ble_eq_true rfl, Nat.le_of_ble_eq_true rfl⟩ (q0 := 0) (As := [.int 1]) (rest := []) (wl := []) (wr := []) (c2 := 0) (s2 := 0) rfl rfl rfl rfl rfl rfl (Nat.le_of_ble_eq_true rfl) rfl rfl ⟨Nat.le_of_ble_eq_true rfl, Nat.le_of_ble_eq_true rfl⟩ dX2_placeInLine_23 26 rfl (ws2 := wM cyI cyZ h w_7) rfl (st2 := [.int x6]) rfl ?_
    refine g_Q hQ ?_
    exact g_iret C hr (by cases hf; rfl) (Nat.le_of_ble_eq_true rfl) (Nat.le_of_ble_eq_true rfl) dX2_placeInLine_26
  · have hf := ifn c5 hf
    refine g_aload_n C dX2_placeInLine_13 14 rfl 0 rfl ?_
    refine g_iload_n C dX2_placeInLine_14 15 rfl 1 rfl ?_
    obtain ⟨x9, e10, hf⟩ := bd1_s hf
    refine g_callV1 C (m_X2_place hfl (h := h) e10) cf_X2_place gX2_placeInLine_X2_place ⟨Nat.le_of_ble_eq_true rfl, Nat.le_of_ble_eq_true rfl⟩ (q0 := 0) (As := [.int a0]) (rest := []) (wl := []) (wr := []) (c2 := 0) (s2 := 0) rfl rfl rfl rfl rfl rfl (Nat.le_of_ble_eq_true rfl) rfl rfl ⟨Nat.le_of_ble_eq_true rfl, Nat.le_of_ble_eq_true rfl⟩ dX2_placeInLine_15 18 rfl (ws2 := wM cyI cyZ h w_2) rfl (st2 := [.int x9]) rfl ?_
    refine g_goto C dX2_placeInLine_18 26 (by decide) ?_
    refine g_Q hQ ?_
    exact g_iret C hr (by cases hf; rfl) (Nat.le_of_ble_eq_true rfl) (Nat.le_of_ble_eq_true rfl) dX2_placeInLine_26
abbrev rm_X2_searchTime : Room := { frames := 3, cells := 0, slots := 0, locals := 65 }
theorem cf_X2_searchTime : CF yX2_searchTime wsX2_searchTime rm_X2_searchTime cX2_searchTime 2 (some .int) 1 0 0 RX2 := ⟨⟨_, rfl⟩, rfl, rfl, rfl, by decide, by decide, by decide +kernel⟩
set_option maxHeartbeats 4000000 in
set_option maxRecDepth 100000 in
theorem m_X2_searchTime {l : Launch} (hfl : l.stackTraces = false) {D : va_G} {cyI cyZ cyJ : ClassId} {h : Nat → Nat} {w : S2} {a0 : Int32} {rx : Int32} {rw : S2} (hf : X2_searchTime w a0 = some (rx, rw)) : Ct ev_s l yX2_searchTime wsX2_searchTime rm_X2_searchTime D (ty3 cyI cyZ cyJ) [.ref (h 0), .int a0] (wM cyI cyZ h w) (fun o => o = .inr (some (.int rx), wM cyI cyZ h rw)) 0 0 := by
  refine ct_of (cc := cX2_searchTime) (nL := 2) (own := RX2) (ret := (some .int)) hfl (by decide) rfl rfl (Nat.le_of_ble_eq_true rfl) (fun p e s m args below meth c A C hr hnm => ?_)
  refine g_setQ (fun Q hQ => ?_)
  have kw0 := Cx.w C (.fieldLink RX2 26 "SleepBorderModel" "thrown" "I") (by decide +kernel)
  have iX2 : ∀ w ∈ u_ws RX2 TX2 7, w ∈ wsX2_searchTime := by decide +kernel
  unfold X2_searchTime at hf
  refine g_lve (lv' := [(0, .ref (h 0)), (1, .int a0)]) rfl ?_
  refine g_aload_n C dX2_searchTime_0 1 rfl 0 rfl ?_
  refine g_iconst C dX2_searchTime_1 2 rfl ic_0 ?_
  obtain ⟨w_2, e1, hf⟩ := bd1_s hf
  refine g_put C iX2 tyX2 tyX2_ok nmX2 0 rfl rfl 0 (by decide) kw0 rfl rfl rfl (Nat.le_of_ble_eq_true rfl) (st_34 (cyI := cyI) (cyZ := cyZ) (cyJ := cyJ) e1) dX2_searchTime_2 5 rfl ?_
  refine g_aload_n C dX2_searchTime_5 6 rfl 0 rfl ?_
  refine g_iload_n C dX2_searchTime_6 7 rfl 1 rfl ?_
  obtain ⟨x3, e4, hf⟩ := bd1_s hf
  refine g_callV1 C (m_X2_isTraveller hfl (h := h) e4) cf_X2_isTraveller gX2_searchTime_X2_isTraveller ⟨Nat.le_of_ble_eq_true rfl, Nat.le_of_ble_eq_true rfl⟩ (q0 := 0) (As := [.int a0]) (rest := []) (wl := []) (wr := []) (c2 := 0) (s2 := 0) rfl rfl rfl rfl rfl rfl (Nat.le_of_ble_eq_true rfl) rfl rfl ⟨Nat.le_of_ble_eq_true rfl, Nat.le_of_ble_eq_true rfl⟩ dX2_searchTime_7 10 rfl (ws2 := wM cyI cyZ h w_2) rfl (st2 := [.int x3]) rfl ?_
  refine g_if_eq C dX2_searchTime_10 21 13 (by decide) rfl (fun c5 => ?_) (fun c5 => ?_)
  · have hf := ifp c5 hf
    refine g_aload_n C dX2_searchTime_21 22 rfl 0 rfl ?_
    refine g_iconst C dX2_searchTime_22 23 rfl ic_1 ?_
    obtain ⟨x6, w_7, e8, hf⟩ := bd2_s hf
    refine g_callV1 C (m_X2_fail hfl (h := h) e8) cf_X2_fail gX2_searchTime_X2_fail ⟨Nat.le_of_ble_eq_true rfl, Nat.le_of_ble_eq_true rfl⟩ (q0 := 0) (As := [.int 1]) (rest := []) (wl := []) (wr := []) (c2 := 0) (s2 := 0) rfl rfl rfl rfl rfl rfl (Nat.le_of_ble_eq_true rfl) rfl rfl ⟨Nat.le_of_ble_eq_true rfl, Nat.le_of_ble_eq_true rfl⟩ dX2_searchTime_23 26 rfl (ws2 := wM cyI cyZ h w_7) rfl (st2 := [.int x6]) rfl ?_
    refine g_Q hQ ?_
    exact g_iret C hr (by cases hf; rfl) (Nat.le_of_ble_eq_true rfl) (Nat.le_of_ble_eq_true rfl) dX2_searchTime_26
  · have hf := ifn c5 hf
    refine g_aload_n C dX2_searchTime_13 14 rfl 0 rfl ?_
    refine g_iload_n C dX2_searchTime_14 15 rfl 1 rfl ?_
    obtain ⟨x9, e10, hf⟩ := bd1_s hf
    refine g_callV1 C (m_X2_takes hfl (h := h) e10) cf_X2_takes gX2_searchTime_X2_takes ⟨Nat.le_of_ble_eq_true rfl, Nat.le_of_ble_eq_true rfl⟩ (q0 := 0) (As := [.int a0]) (rest := []) (wl := []) (wr := []) (c2 := 0) (s2 := 0) rfl rfl rfl rfl rfl rfl (Nat.le_of_ble_eq_true rfl) rfl rfl ⟨Nat.le_of_ble_eq_true rfl, Nat.le_of_ble_eq_true rfl⟩ dX2_searchTime_15 18 rfl (ws2 := wM cyI cyZ h w_2) rfl (st2 := [.int x9]) rfl ?_
    refine g_goto C dX2_searchTime_18 26 (by decide) ?_
    refine g_Q hQ ?_
    exact g_iret C hr (by cases hf; rfl) (Nat.le_of_ble_eq_true rfl) (Nat.le_of_ble_eq_true rfl) dX2_searchTime_26
abbrev rm_X2_guards : Room := { frames := 1, cells := 0, slots := 0, locals := 21 }
theorem cf_X2_guards : CF yX2_guards wsX2_guards rm_X2_guards cX2_guards 1 (some .int) 0 0 0 RX2 := ⟨⟨_, rfl⟩, rfl, rfl, rfl, by decide, by decide, by decide +kernel⟩
set_option maxHeartbeats 4000000 in
set_option maxRecDepth 100000 in
theorem m_X2_guards {l : Launch} (hfl : l.stackTraces = false) {D : va_G} {cyI cyZ cyJ : ClassId} {h : Nat → Nat} {w : S2} {rx : Int32} {rw : S2} (hf : X2_guards w = some (rx, rw)) : Ct ev_s l yX2_guards wsX2_guards rm_X2_guards D (ty3 cyI cyZ cyJ) [.ref (h 0)] (wM cyI cyZ h w) (fun o => o = .inr (some (.int rx), wM cyI cyZ h rw)) 0 0 := by
  refine ct_of (cc := cX2_guards) (nL := 1) (own := RX2) (ret := (some .int)) hfl (by decide) rfl rfl (Nat.le_of_ble_eq_true rfl) (fun p e s m args below meth c A C hr hnm => ?_)
  refine g_setQ (fun Q hQ => ?_)
  have kw0 := Cx.w C (.fieldLink RX2 16 "SleepBorderModel" "now" "[I") (by decide +kernel)
  have iX2 : ∀ w ∈ u_ws RX2 TX2 7, w ∈ wsX2_guards := by decide +kernel
  unfold X2_guards at hf
  refine g_lve (lv' := [(0, .ref (h 0))]) rfl ?_
  refine g_aload_n C dX2_guards_0 1 rfl 0 rfl ?_
  refine g_aload_n C dX2_guards_1 2 rfl 0 rfl ?_
  refine g_get C iX2 0 rfl rfl 4 (by decide) kw0 rfl rfl dX2_guards_2 5 rfl ?_
  refine g_iconst C dX2_guards_5 6 rfl ic_3 ?_
  obtain ⟨x2, e1, hf⟩ := bd1_s hf
  refine g_iald C 3 0 rfl rfl e1 dX2_guards_6 7 rfl ?_
  obtain ⟨x3, w_4, e5, hf⟩ := bd2_s hf
  refine g_callV1 C (m_X2_told hfl (h := h) e5) cf_X2_told gX2_guards_X2_told ⟨Nat.le_of_ble_eq_true rfl, Nat.le_of_ble_eq_true rfl⟩ (q0 := 0) (As := [.int x2]) (rest := []) (wl := []) (wr := []) (c2 := 0) (s2 := 0) rfl rfl rfl rfl rfl rfl (Nat.le_of_ble_eq_true rfl) rfl rfl ⟨Nat.le_of_ble_eq_true rfl, Nat.le_of_ble_eq_true rfl⟩ dX2_guards_7 10 rfl (ws2 := wM cyI cyZ h w_4) rfl (st2 := [.int x3]) rfl ?_
  refine g_Q hQ ?_
  exact g_iret C hr (by cases hf; rfl) (Nat.le_of_ble_eq_true rfl) (Nat.le_of_ble_eq_true rfl) dX2_guards_10
abbrev rm_X2_guard : Room := { frames := 2, cells := 0, slots := 0, locals := 43 }
theorem cf_X2_guard : CF yX2_guard wsX2_guard rm_X2_guard cX2_guard 3 (some .int) 2 0 0 RX2 := ⟨⟨_, rfl⟩, rfl, rfl, rfl, by decide, by decide, by decide +kernel⟩
set_option maxHeartbeats 4000000 in
set_option maxRecDepth 100000 in
theorem m_X2_guard {l : Launch} (hfl : l.stackTraces = false) {D : va_G} {cyI cyZ cyJ : ClassId} {h : Nat → Nat} {w : S2} {a0 : Int32} {a1 : Int32} {rx : Int32} {rw : S2} (hf : X2_guard w a0 a1 = some (rx, rw)) : Ct ev_s l yX2_guard wsX2_guard rm_X2_guard D (ty3 cyI cyZ cyJ) [.ref (h 0), .int a0, .int a1] (wM cyI cyZ h w) (fun o => o = .inr (some (.int rx), wM cyI cyZ h rw)) 0 0 := by
  refine ct_of (cc := cX2_guard) (nL := 3) (own := RX2) (ret := (some .int)) hfl (by decide) rfl rfl (Nat.le_of_ble_eq_true rfl) (fun p e s m args below meth c A C hr hnm => ?_)
  refine g_setQ (fun Q hQ => ?_)
  have kw0 := Cx.w C (.fieldLink RX2 26 "SleepBorderModel" "thrown" "I") (by decide +kernel)
  have iX2 : ∀ w ∈ u_ws RX2 TX2 7, w ∈ wsX2_guard := by decide +kernel
  unfold X2_guard at hf
  refine g_lve (lv' := [(0, .ref (h 0)), (1, .int a0), (2, .int a1)]) rfl ?_
  refine g_aload_n C dX2_guard_0 1 rfl 0 rfl ?_
  refine g_iconst C dX2_guard_1 2 rfl ic_0 ?_
  obtain ⟨w_2, e1, hf⟩ := bd1_s hf
  refine g_put C iX2 tyX2 tyX2_ok nmX2 0 rfl rfl 0 (by decide) kw0 rfl rfl rfl (Nat.le_of_ble_eq_true rfl) (st_34 (cyI := cyI) (cyZ := cyZ) (cyJ := cyJ) e1) dX2_guard_2 5 rfl ?_
  refine g_aload_n C dX2_guard_5 6 rfl 0 rfl ?_
  refine g_iload_n C dX2_guard_6 7 rfl 1 rfl ?_
  obtain ⟨x3, e4, hf⟩ := bd1_s hf
  refine g_callV1 C (m_X2_isGuard hfl (h := h) e4) cf_X2_isGuard gX2_guard_X2_isGuard ⟨Nat.le_of_ble_eq_true rfl, Nat.le_of_ble_eq_true rfl⟩ (q0 := 0) (As := [.int a0]) (rest := []) (wl := []) (wr := []) (c2 := 0) (s2 := 0) rfl rfl rfl rfl rfl rfl (Nat.le_of_ble_eq_true rfl) rfl rfl ⟨Nat.le_of_ble_eq_true rfl, Nat.le_of_ble_eq_true rfl⟩ dX2_guard_7 10 rfl (ws2 := wM cyI cyZ h w_2) rfl (st2 := [.int x3]) rfl ?_
  refine g_if_eq C dX2_guard_10 22 13 (by decide) rfl (fun c5 => ?_) (fun c5 => ?_)
  · have hf := ifp c5 hf
    refine g_aload_n C dX2_guard_22 23 rfl 0 rfl ?_
    refine g_iconst C dX2_guard_23 24 rfl ic_1 ?_
    obtain ⟨x6, w_7, e8, hf⟩ := bd2_s hf
    refine g_callV1 C (m_X2_fail hfl (h := h) e8) cf_X2_fail gX2_guard_X2_fail ⟨Nat.le_of_ble_eq_true rfl, Nat.le_of_ble_eq_true rfl⟩ (q0 := 0) (As := [.int 1]) (rest := []) (wl := []) (wr := []) (c2 := 0) (s2 := 0) rfl rfl rfl rfl rfl rfl (Nat.le_of_ble_eq_true rfl) rfl rfl ⟨Nat.le_of_ble_eq_true rfl, Nat.le_of_ble_eq_true rfl⟩ dX2_guard_24 27 rfl (ws2 := wM cyI cyZ h w_7) rfl (st2 := [.int x6]) rfl ?_
    refine g_Q hQ ?_
    exact g_iret C hr (by cases hf; rfl) (Nat.le_of_ble_eq_true rfl) (Nat.le_of_ble_eq_true rfl) dX2_guard_27
  · have hf := ifn c5 hf
    refine g_aload_n C dX2_guard_13 14 rfl 0 rfl ?_
    refine g_iload_n C dX2_guard_14 15 rfl 1 rfl ?_
    refine g_iload_n C dX2_guard_15 16 rfl 2 rfl ?_
    obtain ⟨x9, e10, hf⟩ := bd1_s hf
    refine g_callV1 C (m_X2_gu hfl (h := h) e10) cf_X2_gu gX2_guard_X2_gu ⟨Nat.le_of_ble_eq_true rfl, Nat.le_of_ble_eq_true rfl⟩ (q0 := 0) (As := [.int a0, .int a1]) (rest := []) (wl := []) (wr := []) (c2 := 0) (s2 := 0) rfl rfl rfl rfl rfl rfl (Nat.le_of_ble_eq_true rfl) rfl rfl ⟨Nat.le_of_ble_eq_true rfl, Nat.le_of_ble_eq_true rfl⟩ dX2_guard_16 19 rfl (ws2 := wM cyI cyZ h w_2) rfl (st2 := [.int x9]) rfl ?_
    refine g_goto C dX2_guard_19 27 (by decide) ?_
    refine g_Q hQ ?_
    exact g_iret C hr (by cases hf; rfl) (Nat.le_of_ble_eq_true rfl) (Nat.le_of_ble_eq_true rfl) dX2_guard_27
abbrev rm_X2_alertnessOf : Room := { frames := 3, cells := 0, slots := 0, locals := 65 }
theorem cf_X2_alertnessOf : CF yX2_alertnessOf wsX2_alertnessOf rm_X2_alertnessOf cX2_alertnessOf 2 (some .int) 1 0 0 RX2 := ⟨⟨_, rfl⟩, rfl, rfl, rfl, by decide, by decide, by decide +kernel⟩
set_option maxHeartbeats 4000000 in
set_option maxRecDepth 100000 in
theorem m_X2_alertnessOf {l : Launch} (hfl : l.stackTraces = false) {D : va_G} {cyI cyZ cyJ : ClassId} {h : Nat → Nat} {w : S2} {a0 : Int32} {rx : Int32} {rw : S2} (hf : X2_alertnessOf w a0 = some (rx, rw)) : Ct ev_s l yX2_alertnessOf wsX2_alertnessOf rm_X2_alertnessOf D (ty3 cyI cyZ cyJ) [.ref (h 0), .int a0] (wM cyI cyZ h w) (fun o => o = .inr (some (.int rx), wM cyI cyZ h rw)) 0 0 := by
  refine ct_of (cc := cX2_alertnessOf) (nL := 2) (own := RX2) (ret := (some .int)) hfl (by decide) rfl rfl (Nat.le_of_ble_eq_true rfl) (fun p e s m args below meth c A C hr hnm => ?_)
  refine g_setQ (fun Q hQ => ?_)
  unfold X2_alertnessOf at hf
  refine g_lve (lv' := [(0, .ref (h 0)), (1, .int a0)]) rfl ?_
  refine g_aload_n C dX2_alertnessOf_0 1 rfl 0 rfl ?_
  refine g_iload_n C dX2_alertnessOf_1 2 rfl 1 rfl ?_
  refine g_iconst C dX2_alertnessOf_2 3 rfl ic_0 ?_
  obtain ⟨x1, w_2, e3, hf⟩ := bd2_s hf
  refine g_callV1 C (m_X2_guard hfl (h := h) e3) cf_X2_guard gX2_alertnessOf_X2_guard ⟨Nat.le_of_ble_eq_true rfl, Nat.le_of_ble_eq_true rfl⟩ (q0 := 0) (As := [.int a0, .int 0]) (rest := []) (wl := []) (wr := []) (c2 := 0) (s2 := 0) rfl rfl rfl rfl rfl rfl (Nat.le_of_ble_eq_true rfl) rfl rfl ⟨Nat.le_of_ble_eq_true rfl, Nat.le_of_ble_eq_true rfl⟩ dX2_alertnessOf_3 6 rfl (ws2 := wM cyI cyZ h w_2) rfl (st2 := [.int x1]) rfl ?_
  refine g_Q hQ ?_
  exact g_iret C hr (by cases hf; rfl) (Nat.le_of_ble_eq_true rfl) (Nat.le_of_ble_eq_true rfl) dX2_alertnessOf_6
abbrev rm_X2_searches : Room := { frames := 3, cells := 0, slots := 0, locals := 65 }
theorem cf_X2_searches : CF yX2_searches wsX2_searches rm_X2_searches cX2_searches 2 (some .int) 1 0 0 RX2 := ⟨⟨_, rfl⟩, rfl, rfl, rfl, by decide, by decide, by decide +kernel⟩
set_option maxHeartbeats 4000000 in
set_option maxRecDepth 100000 in
theorem m_X2_searches {l : Launch} (hfl : l.stackTraces = false) {D : va_G} {cyI cyZ cyJ : ClassId} {h : Nat → Nat} {w : S2} {a0 : Int32} {rx : Int32} {rw : S2} (hf : X2_searches w a0 = some (rx, rw)) : Ct ev_s l yX2_searches wsX2_searches rm_X2_searches D (ty3 cyI cyZ cyJ) [.ref (h 0), .int a0] (wM cyI cyZ h w) (fun o => o = .inr (some (.int rx), wM cyI cyZ h rw)) 0 0 := by
  refine ct_of (cc := cX2_searches) (nL := 2) (own := RX2) (ret := (some .int)) hfl (by decide) rfl rfl (Nat.le_of_ble_eq_true rfl) (fun p e s m args below meth c A C hr hnm => ?_)
  refine g_setQ (fun Q hQ => ?_)
  unfold X2_searches at hf
  refine g_lve (lv' := [(0, .ref (h 0)), (1, .int a0)]) rfl ?_
  refine g_aload_n C dX2_searches_0 1 rfl 0 rfl ?_
  refine g_iload_n C dX2_searches_1 2 rfl 1 rfl ?_
  refine g_iconst C dX2_searches_2 3 rfl ic_1 ?_
  obtain ⟨x1, w_2, e3, hf⟩ := bd2_s hf
  refine g_callV1 C (m_X2_guard hfl (h := h) e3) cf_X2_guard gX2_searches_X2_guard ⟨Nat.le_of_ble_eq_true rfl, Nat.le_of_ble_eq_true rfl⟩ (q0 := 0) (As := [.int a0, .int 1]) (rest := []) (wl := []) (wr := []) (c2 := 0) (s2 := 0) rfl rfl rfl rfl rfl rfl (Nat.le_of_ble_eq_true rfl) rfl rfl ⟨Nat.le_of_ble_eq_true rfl, Nat.le_of_ble_eq_true rfl⟩ dX2_searches_3 6 rfl (ws2 := wM cyI cyZ h w_2) rfl (st2 := [.int x1]) rfl ?_
  refine g_Q hQ ?_
  exact g_iret C hr (by cases hf; rfl) (Nat.le_of_ble_eq_true rfl) (Nat.le_of_ble_eq_true rfl) dX2_searches_6
abbrev rm_X2_minutesToGo : Room := { frames := 3, cells := 0, slots := 0, locals := 65 }
theorem cf_X2_minutesToGo : CF yX2_minutesToGo wsX2_minutesToGo rm_X2_minutesToGo cX2_minutesToGo 2 (some .int) 1 0 0 RX2 := ⟨⟨_, rfl⟩, rfl, rfl, rfl, by decide, by decide, by decide +kernel⟩
set_option maxHeartbeats 4000000 in
set_option maxRecDepth 100000 in
theorem m_X2_minutesToGo {l : Launch} (hfl : l.stackTraces = false) {D : va_G} {cyI cyZ cyJ : ClassId} {h : Nat → Nat} {w : S2} {a0 : Int32} {rx : Int32} {rw : S2} (hf : X2_minutesToGo w a0 = some (rx, rw)) : Ct ev_s l yX2_minutesToGo wsX2_minutesToGo rm_X2_minutesToGo D (ty3 cyI cyZ cyJ) [.ref (h 0), .int a0] (wM cyI cyZ h w) (fun o => o = .inr (some (.int rx), wM cyI cyZ h rw)) 0 0 := by
  refine ct_of (cc := cX2_minutesToGo) (nL := 2) (own := RX2) (ret := (some .int)) hfl (by decide) rfl rfl (Nat.le_of_ble_eq_true rfl) (fun p e s m args below meth c A C hr hnm => ?_)
  refine g_setQ (fun Q hQ => ?_)
  unfold X2_minutesToGo at hf
  refine g_lve (lv' := [(0, .ref (h 0)), (1, .int a0)]) rfl ?_
  refine g_aload_n C dX2_minutesToGo_0 1 rfl 0 rfl ?_
  refine g_iload_n C dX2_minutesToGo_1 2 rfl 1 rfl ?_
  refine g_iconst C dX2_minutesToGo_2 3 rfl ic_2 ?_
  obtain ⟨x1, w_2, e3, hf⟩ := bd2_s hf
  refine g_callV1 C (m_X2_guard hfl (h := h) e3) cf_X2_guard gX2_minutesToGo_X2_guard ⟨Nat.le_of_ble_eq_true rfl, Nat.le_of_ble_eq_true rfl⟩ (q0 := 0) (As := [.int a0, .int 2]) (rest := []) (wl := []) (wr := []) (c2 := 0) (s2 := 0) rfl rfl rfl rfl rfl rfl (Nat.le_of_ble_eq_true rfl) rfl rfl ⟨Nat.le_of_ble_eq_true rfl, Nat.le_of_ble_eq_true rfl⟩ dX2_minutesToGo_3 6 rfl (ws2 := wM cyI cyZ h w_2) rfl (st2 := [.int x1]) rfl ?_
  refine g_Q hQ ?_
  exact g_iret C hr (by cases hf; rfl) (Nat.le_of_ble_eq_true rfl) (Nat.le_of_ble_eq_true rfl) dX2_minutesToGo_6
abbrev rm_X2_wouldFind : Room := { frames := 3, cells := 0, slots := 0, locals := 65 }
theorem cf_X2_wouldFind : CF yX2_wouldFind wsX2_wouldFind rm_X2_wouldFind cX2_wouldFind 3 (some .boolean) 2 0 0 RX2 := ⟨⟨_, rfl⟩, rfl, rfl, rfl, by decide, by decide, by decide +kernel⟩
set_option maxHeartbeats 4000000 in
set_option maxRecDepth 100000 in
theorem m_X2_wouldFind {l : Launch} (hfl : l.stackTraces = false) {D : va_G} {cyI cyZ cyJ : ClassId} {h : Nat → Nat} {w : S2} {a0 : Int32} {a1 : Int32} {rx : Int32} {rw : S2} (hf : X2_wouldFind w a0 a1 = some (rx, rw)) : Ct ev_s l yX2_wouldFind wsX2_wouldFind rm_X2_wouldFind D (ty3 cyI cyZ cyJ) [.ref (h 0), .int a0, .int a1] (wM cyI cyZ h w) (fun o => o = .inr (some (.int rx), wM cyI cyZ h rw)) 0 0 := by
  refine ct_of (cc := cX2_wouldFind) (nL := 3) (own := RX2) (ret := (some .boolean)) hfl (by decide) rfl rfl (Nat.le_of_ble_eq_true rfl) (fun p e s m args below meth c A C hr hnm => ?_)
  refine g_setQ (fun Q hQ => ?_)
  have kw0 := Cx.w C (.fieldLink RX2 26 "SleepBorderModel" "thrown" "I") (by decide +kernel)
  have iX2 : ∀ w ∈ u_ws RX2 TX2 7, w ∈ wsX2_wouldFind := by decide +kernel
  unfold X2_wouldFind at hf
  refine g_lve (lv' := [(0, .ref (h 0)), (1, .int a0), (2, .int a1)]) rfl ?_
  refine g_aload_n C dX2_wouldFind_0 1 rfl 0 rfl ?_
  refine g_aload_n C dX2_wouldFind_1 2 rfl 0 rfl ?_
  refine g_iload_n C dX2_wouldFind_2 3 rfl 1 rfl ?_
  obtain ⟨x1, e2, hf⟩ := bd1_s hf
  refine g_callV1 C (m_X2_isGuard hfl (h := h) e2) cf_X2_isGuard gX2_wouldFind_X2_isGuard ⟨Nat.le_of_ble_eq_true rfl, Nat.le_of_ble_eq_true rfl⟩ (q0 := 0) (As := [.int a0]) (rest := [.ref (h 0)]) (wl := []) (wr := []) (c2 := 0) (s2 := 0) rfl rfl rfl rfl rfl rfl (Nat.le_of_ble_eq_true rfl) rfl rfl ⟨Nat.le_of_ble_eq_true rfl, Nat.le_of_ble_eq_true rfl⟩ dX2_wouldFind_3 6 rfl (ws2 := wM cyI cyZ h w) rfl (st2 := [.int x1, .ref (h 0)]) rfl ?_
  refine g_if_eq C dX2_wouldFind_6 21 9 (by decide) rfl (fun c3 => ?_) (fun c3 => ?_)
  · have hf := ifp c3 hf
    refine g_iconst C dX2_wouldFind_21 22 rfl ic_1 ?_
    obtain ⟨w_5, e4, hf⟩ := bd1_s hf
    refine g_put C iX2 tyX2 tyX2_ok nmX2 0 rfl rfl 0 (by decide) kw0 rfl rfl rfl (Nat.le_of_ble_eq_true rfl) (st_34 (cyI := cyI) (cyZ := cyZ) (cyJ := cyJ) e4) dX2_wouldFind_22 25 rfl ?_
    refine g_aload_n C dX2_wouldFind_25 26 rfl 0 rfl ?_
    refine g_get C iX2 0 rfl rfl 0 (by decide) kw0 rfl rfl dX2_wouldFind_26 29 rfl ?_
    refine g_if_ne C dX2_wouldFind_29 45 32 (by decide) rfl (fun c6 => ?_) (fun c6 => ?_)
    · have hf := ifn c6 hf
      refine g_iconst C dX2_wouldFind_45 46 rfl ic_0 ?_
      refine g_Q hQ ?_
      exact g_zret C hr (Or.inl rfl) (by cases hf; rfl) (Nat.le_of_ble_eq_true rfl) (Nat.le_of_ble_eq_true rfl) dX2_wouldFind_46
    · have hf := ifp c6 hf
      refine g_aload_n C dX2_wouldFind_32 33 rfl 0 rfl ?_
      refine g_iload_n C dX2_wouldFind_33 34 rfl 1 rfl ?_
      refine g_iload_n C dX2_wouldFind_34 35 rfl 2 rfl ?_
      obtain ⟨x7, e8, hf⟩ := bd1_s hf
      refine g_callV1 C (m_X2_finds hfl (h := h) e8) cf_X2_finds gX2_wouldFind_X2_finds ⟨Nat.le_of_ble_eq_true rfl, Nat.le_of_ble_eq_true rfl⟩ (q0 := 0) (As := [.int a0, .int a1]) (rest := []) (wl := []) (wr := []) (c2 := 0) (s2 := 0) rfl rfl rfl rfl rfl rfl (Nat.le_of_ble_eq_true rfl) rfl rfl ⟨Nat.le_of_ble_eq_true rfl, Nat.le_of_ble_eq_true rfl⟩ dX2_wouldFind_35 38 rfl (ws2 := wM cyI cyZ h w_5) rfl (st2 := [.int x7]) rfl ?_
      refine g_if_eq C dX2_wouldFind_38 45 41 (by decide) rfl (fun c9 => ?_) (fun c9 => ?_)
      · have hf := ifp c9 hf
        refine g_iconst C dX2_wouldFind_45 46 rfl ic_0 ?_
        refine g_Q hQ ?_
        exact g_zret C hr (Or.inl rfl) (by cases hf; rfl) (Nat.le_of_ble_eq_true rfl) (Nat.le_of_ble_eq_true rfl) dX2_wouldFind_46
      · have hf := ifn c9 hf
        refine g_iconst C dX2_wouldFind_41 42 rfl ic_1 ?_
        refine g_goto C dX2_wouldFind_42 46 (by decide) ?_
        refine g_Q hQ ?_
        exact g_zret C hr (Or.inr rfl) (by cases hf; rfl) (Nat.le_of_ble_eq_true rfl) (Nat.le_of_ble_eq_true rfl) dX2_wouldFind_46
  · have hf := ifn c3 hf
    refine g_aload_n C dX2_wouldFind_9 10 rfl 0 rfl ?_
    refine g_iload_n C dX2_wouldFind_10 11 rfl 2 rfl ?_
    obtain ⟨x10, e11, hf⟩ := bd1_s hf
    refine g_callV1 C (m_X2_isTraveller hfl (h := h) e11) cf_X2_isTraveller gX2_wouldFind_X2_isTraveller ⟨Nat.le_of_ble_eq_true rfl, Nat.le_of_ble_eq_true rfl⟩ (q0 := 0) (As := [.int a1]) (rest := [.ref (h 0)]) (wl := []) (wr := []) (c2 := 0) (s2 := 0) rfl rfl rfl rfl rfl rfl (Nat.le_of_ble_eq_true rfl) rfl rfl ⟨Nat.le_of_ble_eq_true rfl, Nat.le_of_ble_eq_true rfl⟩ dX2_wouldFind_11 14 rfl (ws2 := wM cyI cyZ h w) rfl (st2 := [.int x10, .ref (h 0)]) rfl ?_
    refine g_if_eq C dX2_wouldFind_14 21 17 (by decide) rfl (fun c12 => ?_) (fun c12 => ?_)
    · have hf := ifp c12 hf
      refine g_iconst C dX2_wouldFind_21 22 rfl ic_1 ?_
      obtain ⟨w_14, e13, hf⟩ := bd1_s hf
      refine g_put C iX2 tyX2 tyX2_ok nmX2 0 rfl rfl 0 (by decide) kw0 rfl rfl rfl (Nat.le_of_ble_eq_true rfl) (st_34 (cyI := cyI) (cyZ := cyZ) (cyJ := cyJ) e13) dX2_wouldFind_22 25 rfl ?_
      refine g_aload_n C dX2_wouldFind_25 26 rfl 0 rfl ?_
      refine g_get C iX2 0 rfl rfl 0 (by decide) kw0 rfl rfl dX2_wouldFind_26 29 rfl ?_
      refine g_if_ne C dX2_wouldFind_29 45 32 (by decide) rfl (fun c15 => ?_) (fun c15 => ?_)
      · have hf := ifn c15 hf
        refine g_iconst C dX2_wouldFind_45 46 rfl ic_0 ?_
        refine g_Q hQ ?_
        exact g_zret C hr (Or.inl rfl) (by cases hf; rfl) (Nat.le_of_ble_eq_true rfl) (Nat.le_of_ble_eq_true rfl) dX2_wouldFind_46
      · have hf := ifp c15 hf
        refine g_aload_n C dX2_wouldFind_32 33 rfl 0 rfl ?_
        refine g_iload_n C dX2_wouldFind_33 34 rfl 1 rfl ?_
        refine g_iload_n C dX2_wouldFind_34 35 rfl 2 rfl ?_
        obtain ⟨x16, e17, hf⟩ := bd1_s hf
        refine g_callV1 C (m_X2_finds hfl (h := h) e17) cf_X2_finds gX2_wouldFind_X2_finds ⟨Nat.le_of_ble_eq_true rfl, Nat.le_of_ble_eq_true rfl⟩ (q0 := 0) (As := [.int a0, .int a1]) (rest := []) (wl := []) (wr := []) (c2 := 0) (s2 := 0) rfl rfl rfl rfl rfl rfl (Nat.le_of_ble_eq_true rfl) rfl rfl ⟨Nat.le_of_ble_eq_true rfl, Nat.le_of_ble_eq_true rfl⟩ dX2_wouldFind_35 38 rfl (ws2 := wM cyI cyZ h w_14) rfl (st2 := [.int x16]) rfl ?_
        refine g_if_eq C dX2_wouldFind_38 45 41 (by decide) rfl (fun c18 => ?_) (fun c18 => ?_)
        · have hf := ifp c18 hf
          refine g_iconst C dX2_wouldFind_45 46 rfl ic_0 ?_
          refine g_Q hQ ?_
          exact g_zret C hr (Or.inl rfl) (by cases hf; rfl) (Nat.le_of_ble_eq_true rfl) (Nat.le_of_ble_eq_true rfl) dX2_wouldFind_46
        · have hf := ifn c18 hf
          refine g_iconst C dX2_wouldFind_41 42 rfl ic_1 ?_
          refine g_goto C dX2_wouldFind_42 46 (by decide) ?_
          refine g_Q hQ ?_
          exact g_zret C hr (Or.inr rfl) (by cases hf; rfl) (Nat.le_of_ble_eq_true rfl) (Nat.le_of_ble_eq_true rfl) dX2_wouldFind_46
    · have hf := ifn c12 hf
      refine g_iconst C dX2_wouldFind_17 18 rfl ic_0 ?_
      refine g_goto C dX2_wouldFind_18 22 (by decide) ?_
      obtain ⟨w_20, e19, hf⟩ := bd1_s hf
      refine g_put C iX2 tyX2 tyX2_ok nmX2 0 rfl rfl 0 (by decide) kw0 rfl rfl rfl (Nat.le_of_ble_eq_true rfl) (st_34 (cyI := cyI) (cyZ := cyZ) (cyJ := cyJ) e19) dX2_wouldFind_22 25 rfl ?_
      refine g_aload_n C dX2_wouldFind_25 26 rfl 0 rfl ?_
      refine g_get C iX2 0 rfl rfl 0 (by decide) kw0 rfl rfl dX2_wouldFind_26 29 rfl ?_
      refine g_if_ne C dX2_wouldFind_29 45 32 (by decide) rfl (fun c21 => ?_) (fun c21 => ?_)
      · have hf := ifn c21 hf
        refine g_iconst C dX2_wouldFind_45 46 rfl ic_0 ?_
        refine g_Q hQ ?_
        exact g_zret C hr (Or.inl rfl) (by cases hf; rfl) (Nat.le_of_ble_eq_true rfl) (Nat.le_of_ble_eq_true rfl) dX2_wouldFind_46
      · have hf := ifp c21 hf
        refine g_aload_n C dX2_wouldFind_32 33 rfl 0 rfl ?_
        refine g_iload_n C dX2_wouldFind_33 34 rfl 1 rfl ?_
        refine g_iload_n C dX2_wouldFind_34 35 rfl 2 rfl ?_
        obtain ⟨x22, e23, hf⟩ := bd1_s hf
        refine g_callV1 C (m_X2_finds hfl (h := h) e23) cf_X2_finds gX2_wouldFind_X2_finds ⟨Nat.le_of_ble_eq_true rfl, Nat.le_of_ble_eq_true rfl⟩ (q0 := 0) (As := [.int a0, .int a1]) (rest := []) (wl := []) (wr := []) (c2 := 0) (s2 := 0) rfl rfl rfl rfl rfl rfl (Nat.le_of_ble_eq_true rfl) rfl rfl ⟨Nat.le_of_ble_eq_true rfl, Nat.le_of_ble_eq_true rfl⟩ dX2_wouldFind_35 38 rfl (ws2 := wM cyI cyZ h w_20) rfl (st2 := [.int x22]) rfl ?_
        refine g_if_eq C dX2_wouldFind_38 45 41 (by decide) rfl (fun c24 => ?_) (fun c24 => ?_)
        · have hf := ifp c24 hf
          refine g_iconst C dX2_wouldFind_45 46 rfl ic_0 ?_
          refine g_Q hQ ?_
          exact g_zret C hr (Or.inl rfl) (by cases hf; rfl) (Nat.le_of_ble_eq_true rfl) (Nat.le_of_ble_eq_true rfl) dX2_wouldFind_46
        · have hf := ifn c24 hf
          refine g_iconst C dX2_wouldFind_41 42 rfl ic_1 ?_
          refine g_goto C dX2_wouldFind_42 46 (by decide) ?_
          refine g_Q hQ ?_
          exact g_zret C hr (Or.inr rfl) (by cases hf; rfl) (Nat.le_of_ble_eq_true rfl) (Nat.le_of_ble_eq_true rfl) dX2_wouldFind_46
abbrev rm_X2_alertest : Room := { frames := 1, cells := 0, slots := 0, locals := 22 }
theorem cf_X2_alertest : CF yX2_alertest wsX2_alertest rm_X2_alertest cX2_alertest 3 (some .int) 0 0 0 RX2 := ⟨⟨_, rfl⟩, rfl, rfl, rfl, by decide, by decide, by decide +kernel⟩
set_option maxHeartbeats 4000000 in
set_option maxRecDepth 100000 in
theorem m_X2_alertest {l : Launch} (hfl : l.stackTraces = false) {D : va_G} {cyI cyZ cyJ : ClassId} {h : Nat → Nat} {w : S2} {rx : Int32} (hf : X2_alertest w = some rx) : Ct ev_s l yX2_alertest wsX2_alertest rm_X2_alertest D (ty3 cyI cyZ cyJ) [.ref (h 0)] (wM cyI cyZ h w) (fun o => o = .inr (some (.int rx), wM cyI cyZ h w)) 0 0 := by
  refine ct_of (cc := cX2_alertest) (nL := 3) (own := RX2) (ret := (some .int)) hfl (by decide) rfl rfl (Nat.le_of_ble_eq_true rfl) (fun p e s m args below meth c A C hr hnm => ?_)
  refine g_setQ (fun Q hQ => ?_)
  have kw0 := Cx.w C (.fieldLink RX2 16 "SleepBorderModel" "now" "[I") (by decide +kernel)
  have iX2 : ∀ w ∈ u_ws RX2 TX2 7, w ∈ wsX2_alertest := by decide +kernel
  have L4 : ∀ (n : Nat) (l1 : Int32) (l2 : Int32), X2_alertest_L4 w n l1 l2 = some rx → Gq p l e rm_X2_alertest s m args below meth c D A 3 Q (wM cyI cyZ h w) 0 0 4 [(0, .ref (h 0)), (1, .int l1), (2, .int l2)] [] := by
    intro n
    induction n with
    | zero => intro l1 l2 hf; simp [X2_alertest_L4] at hf
    | succ n ih =>
      intro l1 l2 hf
      rw [X2_alertest_L4] at hf
      refine g_iload_n C dX2_alertest_4 5 rfl 2 rfl ?_
      refine g_aload_n C dX2_alertest_5 6 rfl 0 rfl ?_
      refine g_get C iX2 0 rfl rfl 4 (by decide) kw0 rfl rfl dX2_alertest_6 9 rfl ?_
      refine g_iconst C dX2_alertest_9 10 rfl ic_3 ?_
      obtain ⟨x2, e1, hf⟩ := bd1_s hf
      refine g_iald C 3 0 rfl rfl e1 dX2_alertest_10 11 rfl ?_
      refine g_icmp_ge C dX2_alertest_11 42 14 (by decide) rfl (fun c3 => ?_) (fun c3 => ?_)
      · have hf := ifp c3 hf
        refine g_iload_n C dX2_alertest_42 43 rfl 1 rfl ?_
        refine g_Q hQ ?_
        exact g_iret C hr (by cases hf; rfl) (Nat.le_of_ble_eq_true rfl) (Nat.le_of_ble_eq_true rfl) dX2_alertest_43
      · have hf := ifn c3 hf
        refine g_iload_n C dX2_alertest_14 15 rfl 1 rfl ?_
        refine g_iconst C dX2_alertest_15 16 rfl ic_m1 ?_
        refine g_icmp_eq C dX2_alertest_16 34 19 (by decide) rfl (fun c4 => ?_) (fun c4 => ?_)
        · have hf := ifp c4 hf
          refine g_iload_n C dX2_alertest_34 35 rfl 2 rfl ?_
          refine g_istore_n C dX2_alertest_35 36 rfl (by decide) (lv' := [(1, .int l2), (0, .ref (h 0)), (2, .int l2)]) rfl ?_
          refine g_iinc C dX2_alertest_36 39 rfl 2 rfl (ii_1 _) (by decide) (lv' := [(2, .int (l2 + 1)), (1, .int l2), (0, .ref (h 0))]) rfl ?_
          refine g_goto C dX2_alertest_39 4 (by decide) ?_
          refine g_lv [2, 1, 0] (lv' := [(0, .ref (h 0)), (1, .int l2), (2, .int (l2 + 1))]) rfl ?_
          exact ih l2 (l2 + 1) hf
        · have hf := ifn c4 hf
          refine g_aload_n C dX2_alertest_19 20 rfl 0 rfl ?_
          refine g_iload_n C dX2_alertest_20 21 rfl 2 rfl ?_
          refine g_iconst C dX2_alertest_21 22 rfl ic_0 ?_
          obtain ⟨x5, e6, hf⟩ := bd1_s hf
          refine g_callV1 C (m_X2_gu hfl (h := h) e6) cf_X2_gu gX2_alertest_X2_gu ⟨Nat.le_of_ble_eq_true rfl, Nat.le_of_ble_eq_true rfl⟩ (q0 := 0) (As := [.int l2, .int 0]) (rest := []) (wl := []) (wr := []) (c2 := 0) (s2 := 0) rfl rfl rfl rfl rfl rfl (Nat.le_of_ble_eq_true rfl) rfl rfl ⟨Nat.le_of_ble_eq_true rfl, Nat.le_of_ble_eq_true rfl⟩ dX2_alertest_22 25 rfl (ws2 := wM cyI cyZ h w) rfl (st2 := [.int x5]) rfl ?_
          refine g_aload_n C dX2_alertest_25 26 rfl 0 rfl ?_
          refine g_iload_n C dX2_alertest_26 27 rfl 1 rfl ?_
          refine g_iconst C dX2_alertest_27 28 rfl ic_0 ?_
          obtain ⟨x7, e8, hf⟩ := bd1_s hf
          refine g_callV1 C (m_X2_gu hfl (h := h) e8) cf_X2_gu gX2_alertest_X2_gu ⟨Nat.le_of_ble_eq_true rfl, Nat.le_of_ble_eq_true rfl⟩ (q0 := 0) (As := [.int l1, .int 0]) (rest := [.int x5]) (wl := []) (wr := []) (c2 := 0) (s2 := 0) rfl rfl rfl rfl rfl rfl (Nat.le_of_ble_eq_true rfl) rfl rfl ⟨Nat.le_of_ble_eq_true rfl, Nat.le_of_ble_eq_true rfl⟩ dX2_alertest_28 31 rfl (ws2 := wM cyI cyZ h w) rfl (st2 := [.int x7, .int x5]) rfl ?_
          refine g_icmp_le C dX2_alertest_31 36 34 (by decide) rfl (fun c9 => ?_) (fun c9 => ?_)
          · have hf := ifp c9 hf
            refine g_iinc C dX2_alertest_36 39 rfl 2 rfl (ii_1 _) (by decide) (lv' := [(2, .int (l2 + 1)), (0, .ref (h 0)), (1, .int l1)]) rfl ?_
            refine g_goto C dX2_alertest_39 4 (by decide) ?_
            refine g_lv [1, 2, 0] (lv' := [(0, .ref (h 0)), (1, .int l1), (2, .int (l2 + 1))]) rfl ?_
            exact ih l1 (l2 + 1) hf
          · have hf := ifn c9 hf
            refine g_iload_n C dX2_alertest_34 35 rfl 2 rfl ?_
            refine g_istore_n C dX2_alertest_35 36 rfl (by decide) (lv' := [(1, .int l2), (0, .ref (h 0)), (2, .int l2)]) rfl ?_
            refine g_iinc C dX2_alertest_36 39 rfl 2 rfl (ii_1 _) (by decide) (lv' := [(2, .int (l2 + 1)), (1, .int l2), (0, .ref (h 0))]) rfl ?_
            refine g_goto C dX2_alertest_39 4 (by decide) ?_
            refine g_lv [2, 1, 0] (lv' := [(0, .ref (h 0)), (1, .int l2), (2, .int (l2 + 1))]) rfl ?_
            exact ih l2 (l2 + 1) hf
  unfold X2_alertest at hf
  refine g_lve (lv' := [(0, .ref (h 0))]) rfl ?_
  refine g_iconst C dX2_alertest_0 1 rfl ic_m1 ?_
  refine g_istore_n C dX2_alertest_1 2 rfl (by decide) (lv' := [(1, .int (-1)), (0, .ref (h 0))]) rfl ?_
  refine g_iconst C dX2_alertest_2 3 rfl ic_0 ?_
  refine g_istore_n C dX2_alertest_3 4 rfl (by decide) (lv' := [(2, .int 0), (1, .int (-1)), (0, .ref (h 0))]) rfl ?_
  refine g_lv [2, 1, 0] (lv' := [(0, .ref (h 0)), (1, .int (-1)), (2, .int 0)]) rfl ?_
  exact L4 200 (-1) 0 hf
abbrev rm_X2_mostAlert : Room := { frames := 2, cells := 0, slots := 0, locals := 44 }
theorem cf_X2_mostAlert : CF yX2_mostAlert wsX2_mostAlert rm_X2_mostAlert cX2_mostAlert 1 (some .int) 0 0 0 RX2 := ⟨⟨_, rfl⟩, rfl, rfl, rfl, by decide, by decide, by decide +kernel⟩
set_option maxHeartbeats 4000000 in
set_option maxRecDepth 100000 in
theorem m_X2_mostAlert {l : Launch} (hfl : l.stackTraces = false) {D : va_G} {cyI cyZ cyJ : ClassId} {h : Nat → Nat} {w : S2} {rx : Int32} {rw : S2} (hf : X2_mostAlert w = some (rx, rw)) : Ct ev_s l yX2_mostAlert wsX2_mostAlert rm_X2_mostAlert D (ty3 cyI cyZ cyJ) [.ref (h 0)] (wM cyI cyZ h w) (fun o => o = .inr (some (.int rx), wM cyI cyZ h rw)) 0 0 := by
  refine ct_of (cc := cX2_mostAlert) (nL := 1) (own := RX2) (ret := (some .int)) hfl (by decide) rfl rfl (Nat.le_of_ble_eq_true rfl) (fun p e s m args below meth c A C hr hnm => ?_)
  refine g_setQ (fun Q hQ => ?_)
  unfold X2_mostAlert at hf
  refine g_lve (lv' := [(0, .ref (h 0))]) rfl ?_
  refine g_aload_n C dX2_mostAlert_0 1 rfl 0 rfl ?_
  refine g_aload_n C dX2_mostAlert_1 2 rfl 0 rfl ?_
  obtain ⟨x1, e2, hf⟩ := bd1_s hf
  refine g_callV1 C (m_X2_alertest hfl (h := h) e2) cf_X2_alertest gX2_mostAlert_X2_alertest ⟨Nat.le_of_ble_eq_true rfl, Nat.le_of_ble_eq_true rfl⟩ (q0 := 0) (As := []) (rest := [.ref (h 0)]) (wl := []) (wr := []) (c2 := 0) (s2 := 0) rfl rfl rfl rfl rfl rfl (Nat.le_of_ble_eq_true rfl) rfl rfl ⟨Nat.le_of_ble_eq_true rfl, Nat.le_of_ble_eq_true rfl⟩ dX2_mostAlert_2 5 rfl (ws2 := wM cyI cyZ h w) rfl (st2 := [.int x1, .ref (h 0)]) rfl ?_
  obtain ⟨x3, w_4, e5, hf⟩ := bd2_s hf
  refine g_callV1 C (m_X2_told hfl (h := h) e5) cf_X2_told gX2_mostAlert_X2_told ⟨Nat.le_of_ble_eq_true rfl, Nat.le_of_ble_eq_true rfl⟩ (q0 := 0) (As := [.int x1]) (rest := []) (wl := []) (wr := []) (c2 := 0) (s2 := 0) rfl rfl rfl rfl rfl rfl (Nat.le_of_ble_eq_true rfl) rfl rfl ⟨Nat.le_of_ble_eq_true rfl, Nat.le_of_ble_eq_true rfl⟩ dX2_mostAlert_5 8 rfl (ws2 := wM cyI cyZ h w_4) rfl (st2 := [.int x3]) rfl ?_
  refine g_Q hQ ?_
  exact g_iret C hr (by cases hf; rfl) (Nat.le_of_ble_eq_true rfl) (Nat.le_of_ble_eq_true rfl) dX2_mostAlert_8
abbrev rm_X2_run : Room := { frames := 5, cells := 0, slots := 0, locals := 109 }
theorem cf_X2_run : CF yX2_run wsX2_run rm_X2_run cX2_run 3 (some .int) 1 0 0 RX2 := ⟨⟨_, rfl⟩, rfl, rfl, rfl, by decide, by decide, by decide +kernel⟩
set_option maxHeartbeats 4000000 in
set_option maxRecDepth 100000 in
theorem m_X2_run {l : Launch} (hfl : l.stackTraces = false) {D : va_G} {cyI cyZ cyJ : ClassId} {h : Nat → Nat} {w : S2} {a0 : Int32} {rx : Int32} {rw : S2} (hf : X2_run w a0 = some (rx, rw)) : Ct ev_s l yX2_run wsX2_run rm_X2_run D (ty3 cyI cyZ cyJ) [.ref (h 0), .int a0] (wM cyI cyZ h w) (fun o => o = .inr (some (.int rx), wM cyI cyZ h rw)) 0 0 := by
  refine ct_of (cc := cX2_run) (nL := 3) (own := RX2) (ret := (some .int)) hfl (by decide) rfl rfl (Nat.le_of_ble_eq_true rfl) (fun p e s m args below meth c A C hr hnm => ?_)
  refine g_setQ (fun Q hQ => ?_)
  have L2 : ∀ (l1 : Int32) (n : Nat) (l2 : Int32) (w : S2), X2_run_L2 l1 n l2 w = some (rx, rw) → Gq p l e rm_X2_run s m args below meth c D A 3 Q (wM cyI cyZ h w) 0 0 2 [(0, .ref (h 0)), (1, .int l1), (2, .int l2)] [] := by
    intro l1 n
    induction n with
    | zero => intro l2 w hf; simp [X2_run_L2] at hf
    | succ n ih =>
      intro l2 w hf
      rw [X2_run_L2] at hf
      refine g_iload_n C dX2_run_2 3 rfl 2 rfl ?_
      refine g_bipush C dX2_run_3 5 rfl bp_100 ?_
      refine g_icmp_gt C dX2_run_5 28 8 (by decide) rfl (fun c1 => ?_) (fun c1 => ?_)
      · have hf := ifp c1 hf
        refine g_iload_n C dX2_run_28 29 rfl 2 rfl ?_
        refine g_bipush C dX2_run_29 31 rfl bp_100 ?_
        refine g_icmp_le C dX2_run_31 38 34 (by decide) rfl (fun c2 => ?_) (fun c2 => ?_)
        · have hf := ifp c2 hf
          refine g_iload_n C dX2_run_38 39 rfl 2 rfl ?_
          refine g_Q hQ ?_
          exact g_iret C hr (by cases hf; rfl) (Nat.le_of_ble_eq_true rfl) (Nat.le_of_ble_eq_true rfl) dX2_run_39
        · have hf := ifn c2 hf
          refine g_iconst C dX2_run_34 35 rfl ic_m1 ?_
          refine g_goto C dX2_run_35 39 (by decide) ?_
          refine g_Q hQ ?_
          exact g_iret C hr (by cases hf; rfl) (Nat.le_of_ble_eq_true rfl) (Nat.le_of_ble_eq_true rfl) dX2_run_39
      · have hf := ifn c1 hf
        refine g_aload_n C dX2_run_8 9 rfl 0 rfl ?_
        refine g_iload_n C dX2_run_9 10 rfl 1 rfl ?_
        refine g_iconst C dX2_run_10 11 rfl ic_0 ?_
        obtain ⟨x3, e4, hf⟩ := bd1_s hf
        refine g_callV1 C (m_X2_tr hfl (h := h) e4) cf_X2_tr gX2_run_X2_tr ⟨Nat.le_of_ble_eq_true rfl, Nat.le_of_ble_eq_true rfl⟩ (q0 := 0) (As := [.int l1, .int 0]) (rest := []) (wl := []) (wr := []) (c2 := 0) (s2 := 0) rfl rfl rfl rfl rfl rfl (Nat.le_of_ble_eq_true rfl) rfl rfl ⟨Nat.le_of_ble_eq_true rfl, Nat.le_of_ble_eq_true rfl⟩ dX2_run_11 14 rfl (ws2 := wM cyI cyZ h w) rfl (st2 := [.int x3]) rfl ?_
        refine g_iconst C dX2_run_14 15 rfl ic_3 ?_
        refine g_icmp_eq C dX2_run_15 28 18 (by decide) rfl (fun c5 => ?_) (fun c5 => ?_)
        · have hf := ifp c5 hf
          refine g_iload_n C dX2_run_28 29 rfl 2 rfl ?_
          refine g_bipush C dX2_run_29 31 rfl bp_100 ?_
          refine g_icmp_le C dX2_run_31 38 34 (by decide) rfl (fun c6 => ?_) (fun c6 => ?_)
          · have hf := ifp c6 hf
            refine g_iload_n C dX2_run_38 39 rfl 2 rfl ?_
            refine g_Q hQ ?_
            exact g_iret C hr (by cases hf; rfl) (Nat.le_of_ble_eq_true rfl) (Nat.le_of_ble_eq_true rfl) dX2_run_39
          · have hf := ifn c6 hf
            refine g_iconst C dX2_run_34 35 rfl ic_m1 ?_
            refine g_goto C dX2_run_35 39 (by decide) ?_
            refine g_Q hQ ?_
            exact g_iret C hr (by cases hf; rfl) (Nat.le_of_ble_eq_true rfl) (Nat.le_of_ble_eq_true rfl) dX2_run_39
        · have hf := ifn c5 hf
          refine g_aload_n C dX2_run_18 19 rfl 0 rfl ?_
          obtain ⟨w_7, e8, hf⟩ := bd1_s hf
          refine g_callV1 C (m_X2_minuteOn hfl (h := h) e8) cf_X2_minuteOn gX2_run_X2_minuteOn ⟨Nat.le_of_ble_eq_true rfl, Nat.le_of_ble_eq_true rfl⟩ (q0 := 0) (As := []) (rest := []) (wl := []) (wr := []) (c2 := 0) (s2 := 0) rfl rfl rfl rfl rfl rfl (Nat.le_of_ble_eq_true rfl) rfl rfl ⟨Nat.le_of_ble_eq_true rfl, Nat.le_of_ble_eq_true rfl⟩ dX2_run_19 22 rfl (ws2 := wM cyI cyZ h w_7) rfl (st2 := []) rfl ?_
          refine g_iinc C dX2_run_22 25 rfl 2 rfl (ii_1 _) (by decide) (lv' := [(2, .int (l2 + 1)), (0, .ref (h 0)), (1, .int l1)]) rfl ?_
          refine g_goto C dX2_run_25 2 (by decide) ?_
          refine g_lv [1, 2, 0] (lv' := [(0, .ref (h 0)), (1, .int l1), (2, .int (l2 + 1))]) rfl ?_
          exact ih (l2 + 1) w_7 hf
  unfold X2_run at hf
  refine g_lve (lv' := [(0, .ref (h 0)), (1, .int a0)]) rfl ?_
  refine g_iconst C dX2_run_0 1 rfl ic_0 ?_
  refine g_istore_n C dX2_run_1 2 rfl (by decide) (lv' := [(2, .int 0), (0, .ref (h 0)), (1, .int a0)]) rfl ?_
  refine g_lv [1, 2, 0] (lv' := [(0, .ref (h 0)), (1, .int a0), (2, .int 0)]) rfl ?_
  exact L2 a0 200 0 w hf
abbrev rm_X2_until : Room := { frames := 6, cells := 0, slots := 0, locals := 131 }
theorem cf_X2_until : CF yX2_until wsX2_until rm_X2_until cX2_until 3 (some .int) 1 0 0 RX2 := ⟨⟨_, rfl⟩, rfl, rfl, rfl, by decide, by decide, by decide +kernel⟩
set_option maxHeartbeats 4000000 in
set_option maxRecDepth 100000 in
theorem m_X2_until {l : Launch} (hfl : l.stackTraces = false) {D : va_G} {cyI cyZ cyJ : ClassId} {h : Nat → Nat} {w : S2} {a0 : Int32} {rx : Int32} {rw : S2} (hf : X2_until w a0 = some (rx, rw)) : Ct ev_s l yX2_until wsX2_until rm_X2_until D (ty3 cyI cyZ cyJ) [.ref (h 0), .int a0] (wM cyI cyZ h w) (fun o => o = .inr (some (.int rx), wM cyI cyZ h rw)) 0 0 := by
  refine ct_of (cc := cX2_until) (nL := 3) (own := RX2) (ret := (some .int)) hfl (by decide) rfl rfl (Nat.le_of_ble_eq_true rfl) (fun p e s m args below meth c A C hr hnm => ?_)
  refine g_setQ (fun Q hQ => ?_)
  unfold X2_until at hf
  refine g_lve (lv' := [(0, .ref (h 0)), (1, .int a0)]) rfl ?_
  refine g_aload_n C dX2_until_0 1 rfl 0 rfl ?_
  obtain ⟨w_1, e2, hf⟩ := bd1_s hf
  refine g_callV1 C (m_X2_keep hfl (h := h) e2) cf_X2_keep gX2_until_X2_keep ⟨Nat.le_of_ble_eq_true rfl, Nat.le_of_ble_eq_true rfl⟩ (q0 := 0) (As := []) (rest := []) (wl := []) (wr := []) (c2 := 0) (s2 := 0) rfl rfl rfl rfl rfl rfl (Nat.le_of_ble_eq_true rfl) rfl rfl ⟨Nat.le_of_ble_eq_true rfl, Nat.le_of_ble_eq_true rfl⟩ dX2_until_1 4 rfl (ws2 := wM cyI cyZ h w_1) rfl (st2 := []) rfl ?_
  refine g_aload_n C dX2_until_4 5 rfl 0 rfl ?_
  refine g_iload_n C dX2_until_5 6 rfl 1 rfl ?_
  obtain ⟨x3, w_4, e5, hf⟩ := bd2_s hf
  refine g_callV1 C (m_X2_run hfl (h := h) e5) cf_X2_run gX2_until_X2_run ⟨Nat.le_of_ble_eq_true rfl, Nat.le_of_ble_eq_true rfl⟩ (q0 := 0) (As := [.int a0]) (rest := []) (wl := []) (wr := []) (c2 := 0) (s2 := 0) rfl rfl rfl rfl rfl rfl (Nat.le_of_ble_eq_true rfl) rfl rfl ⟨Nat.le_of_ble_eq_true rfl, Nat.le_of_ble_eq_true rfl⟩ dX2_until_6 9 rfl (ws2 := wM cyI cyZ h w_4) rfl (st2 := [.int x3]) rfl ?_
  refine g_istore_n C dX2_until_9 10 rfl (by decide) (lv' := [(2, .int x3), (0, .ref (h 0)), (1, .int a0)]) rfl ?_
  refine g_aload_n C dX2_until_10 11 rfl 1 rfl ?_
  obtain ⟨w_6, e7, hf⟩ := bd1_s hf
  refine g_callV1 C (m_X2_bringBack hfl (h := h) e7) cf_X2_bringBack gX2_until_X2_bringBack ⟨Nat.le_of_ble_eq_true rfl, Nat.le_of_ble_eq_true rfl⟩ (q0 := 0) (As := []) (rest := []) (wl := []) (wr := []) (c2 := 0) (s2 := 0) rfl rfl rfl rfl rfl rfl (Nat.le_of_ble_eq_true rfl) rfl rfl ⟨Nat.le_of_ble_eq_true rfl, Nat.le_of_ble_eq_true rfl⟩ dX2_until_11 14 rfl (ws2 := wM cyI cyZ h w_6) rfl (st2 := []) rfl ?_
  refine g_iload_n C dX2_until_14 15 rfl 0 rfl ?_
  refine g_Q hQ ?_
  exact g_iret C hr (by cases hf; rfl) (Nat.le_of_ble_eq_true rfl) (Nat.le_of_ble_eq_true rfl) dX2_until_15
abbrev rm_X2_minutesUntilAsleep : Room := { frames := 7, cells := 0, slots := 0, locals := 153 }
theorem cf_X2_minutesUntilAsleep : CF yX2_minutesUntilAsleep wsX2_minutesUntilAsleep rm_X2_minutesUntilAsleep cX2_minutesUntilAsleep 2 (some .int) 1 0 0 RX2 := ⟨⟨_, rfl⟩, rfl, rfl, rfl, by decide, by decide, by decide +kernel⟩
set_option maxHeartbeats 4000000 in
set_option maxRecDepth 100000 in
theorem m_X2_minutesUntilAsleep {l : Launch} (hfl : l.stackTraces = false) {D : va_G} {cyI cyZ cyJ : ClassId} {h : Nat → Nat} {w : S2} {a0 : Int32} {rx : Int32} {rw : S2} (hf : X2_minutesUntilAsleep w a0 = some (rx, rw)) : Ct ev_s l yX2_minutesUntilAsleep wsX2_minutesUntilAsleep rm_X2_minutesUntilAsleep D (ty3 cyI cyZ cyJ) [.ref (h 0), .int a0] (wM cyI cyZ h w) (fun o => o = .inr (some (.int rx), wM cyI cyZ h rw)) 0 0 := by
  refine ct_of (cc := cX2_minutesUntilAsleep) (nL := 2) (own := RX2) (ret := (some .int)) hfl (by decide) rfl rfl (Nat.le_of_ble_eq_true rfl) (fun p e s m args below meth c A C hr hnm => ?_)
  refine g_setQ (fun Q hQ => ?_)
  have kw0 := Cx.w C (.fieldLink RX2 26 "SleepBorderModel" "thrown" "I") (by decide +kernel)
  have iX2 : ∀ w ∈ u_ws RX2 TX2 7, w ∈ wsX2_minutesUntilAsleep := by decide +kernel
  unfold X2_minutesUntilAsleep at hf
  refine g_lve (lv' := [(0, .ref (h 0)), (1, .int a0)]) rfl ?_
  refine g_aload_n C dX2_minutesUntilAsleep_0 1 rfl 0 rfl ?_
  refine g_iconst C dX2_minutesUntilAsleep_1 2 rfl ic_0 ?_
  obtain ⟨w_2, e1, hf⟩ := bd1_s hf
  refine g_put C iX2 tyX2 tyX2_ok nmX2 0 rfl rfl 0 (by decide) kw0 rfl rfl rfl (Nat.le_of_ble_eq_true rfl) (st_34 (cyI := cyI) (cyZ := cyZ) (cyJ := cyJ) e1) dX2_minutesUntilAsleep_2 5 rfl ?_
  refine g_aload_n C dX2_minutesUntilAsleep_5 6 rfl 0 rfl ?_
  refine g_iload_n C dX2_minutesUntilAsleep_6 7 rfl 1 rfl ?_
  obtain ⟨x3, e4, hf⟩ := bd1_s hf
  refine g_callV1 C (m_X2_isTraveller hfl (h := h) e4) cf_X2_isTraveller gX2_minutesUntilAsleep_X2_isTraveller ⟨Nat.le_of_ble_eq_true rfl, Nat.le_of_ble_eq_true rfl⟩ (q0 := 0) (As := [.int a0]) (rest := []) (wl := []) (wr := []) (c2 := 0) (s2 := 0) rfl rfl rfl rfl rfl rfl (Nat.le_of_ble_eq_true rfl) rfl rfl ⟨Nat.le_of_ble_eq_true rfl, Nat.le_of_ble_eq_true rfl⟩ dX2_minutesUntilAsleep_7 10 rfl (ws2 := wM cyI cyZ h w_2) rfl (st2 := [.int x3]) rfl ?_
  refine g_if_eq C dX2_minutesUntilAsleep_10 21 13 (by decide) rfl (fun c5 => ?_) (fun c5 => ?_)
  · have hf := ifp c5 hf
    refine g_aload_n C dX2_minutesUntilAsleep_21 22 rfl 0 rfl ?_
    refine g_iconst C dX2_minutesUntilAsleep_22 23 rfl ic_1 ?_
    obtain ⟨x6, w_7, e8, hf⟩ := bd2_s hf
    refine g_callV1 C (m_X2_fail hfl (h := h) e8) cf_X2_fail gX2_minutesUntilAsleep_X2_fail ⟨Nat.le_of_ble_eq_true rfl, Nat.le_of_ble_eq_true rfl⟩ (q0 := 0) (As := [.int 1]) (rest := []) (wl := []) (wr := []) (c2 := 0) (s2 := 0) rfl rfl rfl rfl rfl rfl (Nat.le_of_ble_eq_true rfl) rfl rfl ⟨Nat.le_of_ble_eq_true rfl, Nat.le_of_ble_eq_true rfl⟩ dX2_minutesUntilAsleep_23 26 rfl (ws2 := wM cyI cyZ h w_7) rfl (st2 := [.int x6]) rfl ?_
    refine g_Q hQ ?_
    exact g_iret C hr (by cases hf; rfl) (Nat.le_of_ble_eq_true rfl) (Nat.le_of_ble_eq_true rfl) dX2_minutesUntilAsleep_26
  · have hf := ifn c5 hf
    refine g_aload_n C dX2_minutesUntilAsleep_13 14 rfl 0 rfl ?_
    refine g_iload_n C dX2_minutesUntilAsleep_14 15 rfl 1 rfl ?_
    obtain ⟨x9, w_10, e11, hf⟩ := bd2_s hf
    refine g_callV1 C (m_X2_until hfl (h := h) e11) cf_X2_until gX2_minutesUntilAsleep_X2_until ⟨Nat.le_of_ble_eq_true rfl, Nat.le_of_ble_eq_true rfl⟩ (q0 := 0) (As := [.int a0]) (rest := []) (wl := []) (wr := []) (c2 := 0) (s2 := 0) rfl rfl rfl rfl rfl rfl (Nat.le_of_ble_eq_true rfl) rfl rfl ⟨Nat.le_of_ble_eq_true rfl, Nat.le_of_ble_eq_true rfl⟩ dX2_minutesUntilAsleep_15 18 rfl (ws2 := wM cyI cyZ h w_10) rfl (st2 := [.int x9]) rfl ?_
    refine g_goto C dX2_minutesUntilAsleep_18 26 (by decide) ?_
    refine g_Q hQ ?_
    exact g_iret C hr (by cases hf; rfl) (Nat.le_of_ble_eq_true rfl) (Nat.le_of_ble_eq_true rfl) dX2_minutesUntilAsleep_26
abbrev rm_X2_sleepers : Room := { frames := 6, cells := 0, slots := 0, locals := 131 }
theorem cf_X2_sleepers : CF yX2_sleepers wsX2_sleepers rm_X2_sleepers cX2_sleepers 3 (some .int) 1 0 0 RX2 := ⟨⟨_, rfl⟩, rfl, rfl, rfl, by decide, by decide, by decide +kernel⟩
set_option maxHeartbeats 4000000 in
set_option maxRecDepth 100000 in
theorem m_X2_sleepers {l : Launch} (hfl : l.stackTraces = false) {D : va_G} {cyI cyZ cyJ : ClassId} {h : Nat → Nat} {w : S2} {a0 : Int32} {rx : Int32} {rw : S2} (hf : X2_sleepers w a0 = some (rx, rw)) : Ct ev_s l yX2_sleepers wsX2_sleepers rm_X2_sleepers D (ty3 cyI cyZ cyJ) [.ref (h 0), .int a0] (wM cyI cyZ h w) (fun o => o = .inr (some (.int rx), wM cyI cyZ h rw)) 0 0 := by
  refine ct_of (cc := cX2_sleepers) (nL := 3) (own := RX2) (ret := (some .int)) hfl (by decide) rfl rfl (Nat.le_of_ble_eq_true rfl) (fun p e s m args below meth c A C hr hnm => ?_)
  refine g_setQ (fun Q hQ => ?_)
  unfold X2_sleepers at hf
  refine g_lve (lv' := [(0, .ref (h 0)), (1, .int a0)]) rfl ?_
  refine g_aload_n C dX2_sleepers_0 1 rfl 0 rfl ?_
  obtain ⟨w_1, e2, hf⟩ := bd1_s hf
  refine g_callV1 C (m_X2_keep hfl (h := h) e2) cf_X2_keep gX2_sleepers_X2_keep ⟨Nat.le_of_ble_eq_true rfl, Nat.le_of_ble_eq_true rfl⟩ (q0 := 0) (As := []) (rest := []) (wl := []) (wr := []) (c2 := 0) (s2 := 0) rfl rfl rfl rfl rfl rfl (Nat.le_of_ble_eq_true rfl) rfl rfl ⟨Nat.le_of_ble_eq_true rfl, Nat.le_of_ble_eq_true rfl⟩ dX2_sleepers_1 4 rfl (ws2 := wM cyI cyZ h w_1) rfl (st2 := []) rfl ?_
  refine g_aload_n C dX2_sleepers_4 5 rfl 0 rfl ?_
  refine g_iload_n C dX2_sleepers_5 6 rfl 1 rfl ?_
  obtain ⟨w_3, e4, hf⟩ := bd1_s hf
  refine g_callV1 C (m_X2_minutesOn hfl (h := h) e4) cf_X2_minutesOn gX2_sleepers_X2_minutesOn ⟨Nat.le_of_ble_eq_true rfl, Nat.le_of_ble_eq_true rfl⟩ (q0 := 0) (As := [.int a0]) (rest := []) (wl := []) (wr := []) (c2 := 0) (s2 := 0) rfl rfl rfl rfl rfl rfl (Nat.le_of_ble_eq_true rfl) rfl rfl ⟨Nat.le_of_ble_eq_true rfl, Nat.le_of_ble_eq_true rfl⟩ dX2_sleepers_6 9 rfl (ws2 := wM cyI cyZ h w_3) rfl (st2 := []) rfl ?_
  refine g_aload_n C dX2_sleepers_9 10 rfl 0 rfl ?_
  refine g_iconst C dX2_sleepers_10 11 rfl ic_3 ?_
  obtain ⟨x5, e6, hf⟩ := bd1_s hf
  refine g_callV1 C (m_X2_count hfl (h := h) e6) cf_X2_count gX2_sleepers_X2_count ⟨Nat.le_of_ble_eq_true rfl, Nat.le_of_ble_eq_true rfl⟩ (q0 := 0) (As := [.int 3]) (rest := []) (wl := []) (wr := []) (c2 := 0) (s2 := 0) rfl rfl rfl rfl rfl rfl (Nat.le_of_ble_eq_true rfl) rfl rfl ⟨Nat.le_of_ble_eq_true rfl, Nat.le_of_ble_eq_true rfl⟩ dX2_sleepers_11 14 rfl (ws2 := wM cyI cyZ h w_3) rfl (st2 := [.int x5]) rfl ?_
  refine g_istore_n C dX2_sleepers_14 15 rfl (by decide) (lv' := [(2, .int x5), (0, .ref (h 0)), (1, .int a0)]) rfl ?_
  refine g_aload_n C dX2_sleepers_15 16 rfl 1 rfl ?_
  obtain ⟨w_7, e8, hf⟩ := bd1_s hf
  refine g_callV1 C (m_X2_bringBack hfl (h := h) e8) cf_X2_bringBack gX2_sleepers_X2_bringBack ⟨Nat.le_of_ble_eq_true rfl, Nat.le_of_ble_eq_true rfl⟩ (q0 := 0) (As := []) (rest := []) (wl := []) (wr := []) (c2 := 0) (s2 := 0) rfl rfl rfl rfl rfl rfl (Nat.le_of_ble_eq_true rfl) rfl rfl ⟨Nat.le_of_ble_eq_true rfl, Nat.le_of_ble_eq_true rfl⟩ dX2_sleepers_16 19 rfl (ws2 := wM cyI cyZ h w_7) rfl (st2 := []) rfl ?_
  refine g_iload_n C dX2_sleepers_19 20 rfl 0 rfl ?_
  refine g_Q hQ ?_
  exact g_iret C hr (by cases hf; rfl) (Nat.le_of_ble_eq_true rfl) (Nat.le_of_ble_eq_true rfl) dX2_sleepers_20
abbrev rm_X2_asleepIn : Room := { frames := 7, cells := 0, slots := 0, locals := 153 }
theorem cf_X2_asleepIn : CF yX2_asleepIn wsX2_asleepIn rm_X2_asleepIn cX2_asleepIn 2 (some .int) 1 0 0 RX2 := ⟨⟨_, rfl⟩, rfl, rfl, rfl, by decide, by decide, by decide +kernel⟩
set_option maxHeartbeats 4000000 in
set_option maxRecDepth 100000 in
theorem m_X2_asleepIn {l : Launch} (hfl : l.stackTraces = false) {D : va_G} {cyI cyZ cyJ : ClassId} {h : Nat → Nat} {w : S2} {a0 : Int32} {rx : Int32} {rw : S2} (hf : X2_asleepIn w a0 = some (rx, rw)) : Ct ev_s l yX2_asleepIn wsX2_asleepIn rm_X2_asleepIn D (ty3 cyI cyZ cyJ) [.ref (h 0), .int a0] (wM cyI cyZ h w) (fun o => o = .inr (some (.int rx), wM cyI cyZ h rw)) 0 0 := by
  refine ct_of (cc := cX2_asleepIn) (nL := 2) (own := RX2) (ret := (some .int)) hfl (by decide) rfl rfl (Nat.le_of_ble_eq_true rfl) (fun p e s m args below meth c A C hr hnm => ?_)
  refine g_setQ (fun Q hQ => ?_)
  have kw0 := Cx.w C (.fieldLink RX2 26 "SleepBorderModel" "thrown" "I") (by decide +kernel)
  have iX2 : ∀ w ∈ u_ws RX2 TX2 7, w ∈ wsX2_asleepIn := by decide +kernel
  unfold X2_asleepIn at hf
  refine g_lve (lv' := [(0, .ref (h 0)), (1, .int a0)]) rfl ?_
  refine g_aload_n C dX2_asleepIn_0 1 rfl 0 rfl ?_
  refine g_iconst C dX2_asleepIn_1 2 rfl ic_0 ?_
  obtain ⟨w_2, e1, hf⟩ := bd1_s hf
  refine g_put C iX2 tyX2 tyX2_ok nmX2 0 rfl rfl 0 (by decide) kw0 rfl rfl rfl (Nat.le_of_ble_eq_true rfl) (st_34 (cyI := cyI) (cyZ := cyZ) (cyJ := cyJ) e1) dX2_asleepIn_2 5 rfl ?_
  refine g_iload_n C dX2_asleepIn_5 6 rfl 1 rfl ?_
  refine g_iconst C dX2_asleepIn_6 7 rfl ic_1 ?_
  refine g_bipush C dX2_asleepIn_7 9 rfl bp_60 ?_
  obtain ⟨x3, e4, hf⟩ := bd1_s hf
  refine g_callS1 C (m_X2_isIn hfl  e4) cf_X2_isIn gX2_asleepIn_X2_isIn ⟨Nat.le_of_ble_eq_true rfl, Nat.le_of_ble_eq_true rfl⟩ (As := [.int a0, .int 1, .int 60]) (rest := []) (wl := []) (wr := wM cyI cyZ h w_2) (c2 := 0) (s2 := 0) rfl rfl rfl (Nat.le_of_ble_eq_true rfl) rfl rfl ⟨Nat.le_of_ble_eq_true rfl, Nat.le_of_ble_eq_true rfl⟩ dX2_asleepIn_9 12 rfl (ws2 := wM cyI cyZ h w_2) rfl (st2 := [.int x3]) rfl ?_
  refine g_if_eq C dX2_asleepIn_12 23 15 (by decide) rfl (fun c5 => ?_) (fun c5 => ?_)
  · have hf := ifp c5 hf
    refine g_aload_n C dX2_asleepIn_23 24 rfl 0 rfl ?_
    refine g_iconst C dX2_asleepIn_24 25 rfl ic_1 ?_
    obtain ⟨x6, w_7, e8, hf⟩ := bd2_s hf
    refine g_callV1 C (m_X2_fail hfl (h := h) e8) cf_X2_fail gX2_asleepIn_X2_fail ⟨Nat.le_of_ble_eq_true rfl, Nat.le_of_ble_eq_true rfl⟩ (q0 := 0) (As := [.int 1]) (rest := []) (wl := []) (wr := []) (c2 := 0) (s2 := 0) rfl rfl rfl rfl rfl rfl (Nat.le_of_ble_eq_true rfl) rfl rfl ⟨Nat.le_of_ble_eq_true rfl, Nat.le_of_ble_eq_true rfl⟩ dX2_asleepIn_25 28 rfl (ws2 := wM cyI cyZ h w_7) rfl (st2 := [.int x6]) rfl ?_
    refine g_Q hQ ?_
    exact g_iret C hr (by cases hf; rfl) (Nat.le_of_ble_eq_true rfl) (Nat.le_of_ble_eq_true rfl) dX2_asleepIn_28
  · have hf := ifn c5 hf
    refine g_aload_n C dX2_asleepIn_15 16 rfl 0 rfl ?_
    refine g_iload_n C dX2_asleepIn_16 17 rfl 1 rfl ?_
    obtain ⟨x9, w_10, e11, hf⟩ := bd2_s hf
    refine g_callV1 C (m_X2_sleepers hfl (h := h) e11) cf_X2_sleepers gX2_asleepIn_X2_sleepers ⟨Nat.le_of_ble_eq_true rfl, Nat.le_of_ble_eq_true rfl⟩ (q0 := 0) (As := [.int a0]) (rest := []) (wl := []) (wr := []) (c2 := 0) (s2 := 0) rfl rfl rfl rfl rfl rfl (Nat.le_of_ble_eq_true rfl) rfl rfl ⟨Nat.le_of_ble_eq_true rfl, Nat.le_of_ble_eq_true rfl⟩ dX2_asleepIn_17 20 rfl (ws2 := wM cyI cyZ h w_10) rfl (st2 := [.int x9]) rfl ?_
    refine g_goto C dX2_asleepIn_20 28 (by decide) ?_
    refine g_Q hQ ?_
    exact g_iret C hr (by cases hf; rfl) (Nat.le_of_ble_eq_true rfl) (Nat.le_of_ble_eq_true rfl) dX2_asleepIn_28
abbrev rm_X2_bestToDeclare : Room := { frames := 6, cells := 0, slots := 0, locals := 131 }
theorem cf_X2_bestToDeclare : CF yX2_bestToDeclare wsX2_bestToDeclare rm_X2_bestToDeclare cX2_bestToDeclare 6 (some .int) 1 0 0 RX2 := ⟨⟨_, rfl⟩, rfl, rfl, rfl, by decide, by decide, by decide +kernel⟩
set_option maxHeartbeats 4000000 in
set_option maxRecDepth 100000 in
theorem m_X2_bestToDeclare {l : Launch} (hfl : l.stackTraces = false) {D : va_G} {cyI cyZ cyJ : ClassId} {h : Nat → Nat} {w : S2} {a0 : Int32} {rx : Int32} {rw : S2} (hf : X2_bestToDeclare w a0 = some (rx, rw)) : Ct ev_s l yX2_bestToDeclare wsX2_bestToDeclare rm_X2_bestToDeclare D (ty3 cyI cyZ cyJ) [.ref (h 0), .int a0] (wM cyI cyZ h w) (fun o => o = .inr (some (.int rx), wM cyI cyZ h rw)) 0 0 := by
  refine ct_of (cc := cX2_bestToDeclare) (nL := 6) (own := RX2) (ret := (some .int)) hfl (by decide) rfl rfl (Nat.le_of_ble_eq_true rfl) (fun p e s m args below meth c A C hr hnm => ?_)
  refine g_setQ (fun Q hQ => ?_)
  have kw0 := Cx.w C (.fieldLink RX2 26 "SleepBorderModel" "thrown" "I") (by decide +kernel)
  have iX2 : ∀ w ∈ u_ws RX2 TX2 7, w ∈ wsX2_bestToDeclare := by decide +kernel
  have L42 : ∀ (l1 : Int32) (n : Nat) (l2 : Int32) (l3 : Int32) (l4 : Int32) (w : S2), X2_bestToDeclare_L42 l1 n l2 l3 l4 w = some (rx, rw) → Gq p l e rm_X2_bestToDeclare s m args below meth c D A 6 Q (wM cyI cyZ h w) 0 0 42 [(0, .ref (h 0)), (1, .int l1), (2, .int l2), (3, .int l3), (4, .int l4)] [] := by
    intro l1 n
    induction n with
    | zero => intro l2 l3 l4 w hf; simp [X2_bestToDeclare_L42] at hf
    | succ n ih =>
      intro l2 l3 l4 w hf
      rw [X2_bestToDeclare_L42] at hf
      refine g_iload C dX2_bestToDeclare_42 44 rfl 4 rfl ?_
      refine g_bipush C dX2_bestToDeclare_44 46 rfl bp_9 ?_
      refine g_icmp_gt C dX2_bestToDeclare_46 95 49 (by decide) rfl (fun c11 => ?_) (fun c11 => ?_)
      · have hf := ifp c11 hf
        refine g_iload_n C dX2_bestToDeclare_95 96 rfl 2 rfl ?_
        refine g_Q hQ ?_
        exact g_iret C hr (by cases hf; rfl) (Nat.le_of_ble_eq_true rfl) (Nat.le_of_ble_eq_true rfl) dX2_bestToDeclare_96
      · have hf := ifn c11 hf
        refine g_aload_n C dX2_bestToDeclare_49 50 rfl 0 rfl ?_
        refine g_iload_n C dX2_bestToDeclare_50 51 rfl 1 rfl ?_
        refine g_iconst C dX2_bestToDeclare_51 52 rfl ic_2 ?_
        refine g_iload C dX2_bestToDeclare_52 54 rfl 4 rfl ?_
        obtain ⟨w_12, e13, hf⟩ := bd1_s hf
        refine g_callV1 C (m_X2_let hfl (h := h) e13) cf_X2_let gX2_bestToDeclare_X2_let ⟨Nat.le_of_ble_eq_true rfl, Nat.le_of_ble_eq_true rfl⟩ (q0 := 0) (As := [.int l1, .int 2, .int l4]) (rest := []) (wl := []) (wr := []) (c2 := 0) (s2 := 0) rfl rfl rfl rfl rfl rfl (Nat.le_of_ble_eq_true rfl) rfl rfl ⟨Nat.le_of_ble_eq_true rfl, Nat.le_of_ble_eq_true rfl⟩ dX2_bestToDeclare_54 57 rfl (ws2 := wM cyI cyZ h w_12) rfl (st2 := []) rfl ?_
        refine g_aload_n C dX2_bestToDeclare_57 58 rfl 0 rfl ?_
        refine g_iload_n C dX2_bestToDeclare_58 59 rfl 1 rfl ?_
        obtain ⟨x14, w_15, e16, hf⟩ := bd2_s hf
        refine g_callV1 C (m_X2_run hfl (h := h) e16) cf_X2_run gX2_bestToDeclare_X2_run ⟨Nat.le_of_ble_eq_true rfl, Nat.le_of_ble_eq_true rfl⟩ (q0 := 0) (As := [.int l1]) (rest := []) (wl := []) (wr := []) (c2 := 0) (s2 := 0) rfl rfl rfl rfl rfl rfl (Nat.le_of_ble_eq_true rfl) rfl rfl ⟨Nat.le_of_ble_eq_true rfl, Nat.le_of_ble_eq_true rfl⟩ dX2_bestToDeclare_59 62 rfl (ws2 := wM cyI cyZ h w_15) rfl (st2 := [.int x14]) rfl ?_
        refine g_istore C dX2_bestToDeclare_62 64 rfl (by decide) (lv' := [(5, .int x14), (0, .ref (h 0)), (1, .int l1), (2, .int l2), (3, .int l3), (4, .int l4)]) rfl ?_
        refine g_aload_n C dX2_bestToDeclare_64 65 rfl 1 rfl ?_
        obtain ⟨w_17, e18, hf⟩ := bd1_s hf
        refine g_callV1 C (m_X2_bringBack hfl (h := h) e18) cf_X2_bringBack gX2_bestToDeclare_X2_bringBack ⟨Nat.le_of_ble_eq_true rfl, Nat.le_of_ble_eq_true rfl⟩ (q0 := 0) (As := []) (rest := []) (wl := []) (wr := []) (c2 := 0) (s2 := 0) rfl rfl rfl rfl rfl rfl (Nat.le_of_ble_eq_true rfl) rfl rfl ⟨Nat.le_of_ble_eq_true rfl, Nat.le_of_ble_eq_true rfl⟩ dX2_bestToDeclare_65 68 rfl (ws2 := wM cyI cyZ h w_17) rfl (st2 := []) rfl ?_
        refine g_iload C dX2_bestToDeclare_68 70 rfl 0 rfl ?_
        refine g_iconst C dX2_bestToDeclare_70 71 rfl ic_m1 ?_
        refine g_icmp_eq C dX2_bestToDeclare_71 89 74 (by decide) rfl (fun c19 => ?_) (fun c19 => ?_)
        · have hf := ifp c19 hf
          refine g_iinc C dX2_bestToDeclare_89 92 rfl 5 rfl (ii_1 _) (by decide) (lv' := [(4, .int (l4 + 1)), (5, .int x14), (0, .ref (h 0)), (1, .int l1), (2, .int l2), (3, .int l3)]) rfl ?_
          refine g_goto C dX2_bestToDeclare_92 42 (by decide) ?_
          refine g_lv [2, 3, 4, 5, 0] (lv' := [(0, .ref (h 0)), (1, .int l1), (2, .int l2), (3, .int l3), (4, .int (l4 + 1))]) rfl ?_
          exact ih l2 l3 (l4 + 1) w_17 hf
        · have hf := ifn c19 hf
          refine g_iload C dX2_bestToDeclare_74 76 rfl 0 rfl ?_
          refine g_iload_n C dX2_bestToDeclare_76 77 rfl 4 rfl ?_
          refine g_icmp_lt C dX2_bestToDeclare_77 83 80 (by decide) rfl (fun c20 => ?_) (fun c20 => ?_)
          · have hf := ifp c20 hf
            refine g_iload C dX2_bestToDeclare_83 85 rfl 5 rfl ?_
            refine g_istore_n C dX2_bestToDeclare_85 86 rfl (by decide) (lv' := [(2, .int l4), (5, .int x14), (0, .ref (h 0)), (1, .int l1), (3, .int l3), (4, .int l4)]) rfl ?_
            refine g_iload C dX2_bestToDeclare_86 88 rfl 1 rfl ?_
            refine g_istore_n C dX2_bestToDeclare_88 89 rfl (by decide) (lv' := [(3, .int x14), (2, .int l4), (5, .int x14), (0, .ref (h 0)), (1, .int l1), (4, .int l4)]) rfl ?_
            refine g_iinc C dX2_bestToDeclare_89 92 rfl 5 rfl (ii_1 _) (by decide) (lv' := [(4, .int (l4 + 1)), (3, .int x14), (2, .int l4), (5, .int x14), (0, .ref (h 0)), (1, .int l1)]) rfl ?_
            refine g_goto C dX2_bestToDeclare_92 42 (by decide) ?_
            refine g_lv [4, 5, 2, 1, 0] (lv' := [(0, .ref (h 0)), (1, .int l1), (2, .int l4), (3, .int x14), (4, .int (l4 + 1))]) rfl ?_
            exact ih l4 x14 (l4 + 1) w_17 hf
          · have hf := ifn c20 hf
            refine g_goto C dX2_bestToDeclare_80 89 (by decide) ?_
            refine g_iinc C dX2_bestToDeclare_89 92 rfl 5 rfl (ii_1 _) (by decide) (lv' := [(4, .int (l4 + 1)), (5, .int x14), (0, .ref (h 0)), (1, .int l1), (2, .int l2), (3, .int l3)]) rfl ?_
            refine g_goto C dX2_bestToDeclare_92 42 (by decide) ?_
            refine g_lv [2, 3, 4, 5, 0] (lv' := [(0, .ref (h 0)), (1, .int l1), (2, .int l2), (3, .int l3), (4, .int (l4 + 1))]) rfl ?_
            exact ih l2 l3 (l4 + 1) w_17 hf
  unfold X2_bestToDeclare at hf
  refine g_lve (lv' := [(0, .ref (h 0)), (1, .int a0)]) rfl ?_
  refine g_aload_n C dX2_bestToDeclare_0 1 rfl 0 rfl ?_
  refine g_iconst C dX2_bestToDeclare_1 2 rfl ic_0 ?_
  obtain ⟨w_2, e1, hf⟩ := bd1_s hf
  refine g_put C iX2 tyX2 tyX2_ok nmX2 0 rfl rfl 0 (by decide) kw0 rfl rfl rfl (Nat.le_of_ble_eq_true rfl) (st_34 (cyI := cyI) (cyZ := cyZ) (cyJ := cyJ) e1) dX2_bestToDeclare_2 5 rfl ?_
  refine g_aload_n C dX2_bestToDeclare_5 6 rfl 0 rfl ?_
  refine g_iload_n C dX2_bestToDeclare_6 7 rfl 1 rfl ?_
  obtain ⟨x3, e4, hf⟩ := bd1_s hf
  refine g_callV1 C (m_X2_isTraveller hfl (h := h) e4) cf_X2_isTraveller gX2_bestToDeclare_X2_isTraveller ⟨Nat.le_of_ble_eq_true rfl, Nat.le_of_ble_eq_true rfl⟩ (q0 := 0) (As := [.int a0]) (rest := []) (wl := []) (wr := []) (c2 := 0) (s2 := 0) rfl rfl rfl rfl rfl rfl (Nat.le_of_ble_eq_true rfl) rfl rfl ⟨Nat.le_of_ble_eq_true rfl, Nat.le_of_ble_eq_true rfl⟩ dX2_bestToDeclare_7 10 rfl (ws2 := wM cyI cyZ h w_2) rfl (st2 := [.int x3]) rfl ?_
  refine g_if_ne C dX2_bestToDeclare_10 19 13 (by decide) rfl (fun c5 => ?_) (fun c5 => ?_)
  · have hf := ifn c5 hf
    refine g_aload_n C dX2_bestToDeclare_19 20 rfl 0 rfl ?_
    refine g_iload_n C dX2_bestToDeclare_20 21 rfl 1 rfl ?_
    refine g_iconst C dX2_bestToDeclare_21 22 rfl ic_0 ?_
    obtain ⟨x6, e7, hf⟩ := bd1_s hf
    refine g_callV1 C (m_X2_tr hfl (h := h) e7) cf_X2_tr gX2_bestToDeclare_X2_tr ⟨Nat.le_of_ble_eq_true rfl, Nat.le_of_ble_eq_true rfl⟩ (q0 := 0) (As := [.int a0, .int 0]) (rest := []) (wl := []) (wr := []) (c2 := 0) (s2 := 0) rfl rfl rfl rfl rfl rfl (Nat.le_of_ble_eq_true rfl) rfl rfl ⟨Nat.le_of_ble_eq_true rfl, Nat.le_of_ble_eq_true rfl⟩ dX2_bestToDeclare_22 25 rfl (ws2 := wM cyI cyZ h w_2) rfl (st2 := [.int x6]) rfl ?_
    refine g_if_eq C dX2_bestToDeclare_25 30 28 (by decide) rfl (fun c8 => ?_) (fun c8 => ?_)
    · have hf := ifp c8 hf
      refine g_iconst C dX2_bestToDeclare_30 31 rfl ic_m1 ?_
      refine g_istore_n C dX2_bestToDeclare_31 32 rfl (by decide) (lv' := [(2, .int (-1)), (0, .ref (h 0)), (1, .int a0)]) rfl ?_
      refine g_bipush C dX2_bestToDeclare_32 34 rfl bp_101 ?_
      refine g_istore_n C dX2_bestToDeclare_34 35 rfl (by decide) (lv' := [(3, .int 101), (2, .int (-1)), (0, .ref (h 0)), (1, .int a0)]) rfl ?_
      refine g_aload_n C dX2_bestToDeclare_35 36 rfl 2 rfl ?_
      obtain ⟨w_9, e10, hf⟩ := bd1_s hf
      refine g_callV1 C (m_X2_keep hfl (h := h) e10) cf_X2_keep gX2_bestToDeclare_X2_keep ⟨Nat.le_of_ble_eq_true rfl, Nat.le_of_ble_eq_true rfl⟩ (q0 := 0) (As := []) (rest := []) (wl := []) (wr := []) (c2 := 0) (s2 := 0) rfl rfl rfl rfl rfl rfl (Nat.le_of_ble_eq_true rfl) rfl rfl ⟨Nat.le_of_ble_eq_true rfl, Nat.le_of_ble_eq_true rfl⟩ dX2_bestToDeclare_36 39 rfl (ws2 := wM cyI cyZ h w_9) rfl (st2 := []) rfl ?_
      refine g_iconst C dX2_bestToDeclare_39 40 rfl ic_0 ?_
      refine g_istore C dX2_bestToDeclare_40 42 rfl (by decide) (lv' := [(4, .int 0), (3, .int 101), (2, .int (-1)), (0, .ref (h 0)), (1, .int a0)]) rfl ?_
      refine g_lv [3, 4, 2, 1, 0] (lv' := [(0, .ref (h 0)), (1, .int a0), (2, .int (-1)), (3, .int 101), (4, .int 0)]) rfl ?_
      exact L42 a0 200 (-1) 101 0 w_9 hf
    · have hf := ifn c8 hf
      refine g_iconst C dX2_bestToDeclare_28 29 rfl ic_m1 ?_
      refine g_Q hQ ?_
      exact g_iret C hr (by cases hf; rfl) (Nat.le_of_ble_eq_true rfl) (Nat.le_of_ble_eq_true rfl) dX2_bestToDeclare_29
  · have hf := ifp c5 hf
    refine g_aload_n C dX2_bestToDeclare_13 14 rfl 0 rfl ?_
    refine g_iconst C dX2_bestToDeclare_14 15 rfl ic_1 ?_
    obtain ⟨x21, w_22, e23, hf⟩ := bd2_s hf
    refine g_callV1 C (m_X2_fail hfl (h := h) e23) cf_X2_fail gX2_bestToDeclare_X2_fail ⟨Nat.le_of_ble_eq_true rfl, Nat.le_of_ble_eq_true rfl⟩ (q0 := 0) (As := [.int 1]) (rest := []) (wl := []) (wr := []) (c2 := 0) (s2 := 0) rfl rfl rfl rfl rfl rfl (Nat.le_of_ble_eq_true rfl) rfl rfl ⟨Nat.le_of_ble_eq_true rfl, Nat.le_of_ble_eq_true rfl⟩ dX2_bestToDeclare_15 18 rfl (ws2 := wM cyI cyZ h w_22) rfl (st2 := [.int x21]) rfl ?_
    refine g_Q hQ ?_
    exact g_iret C hr (by cases hf; rfl) (Nat.le_of_ble_eq_true rfl) (Nat.le_of_ble_eq_true rfl) dX2_bestToDeclare_18
abbrev rm_X2_wanted : Room := { frames := 6, cells := 0, slots := 0, locals := 131 }
theorem cf_X2_wanted : CF yX2_wanted wsX2_wanted rm_X2_wanted cX2_wanted 5 (some .int) 0 0 0 RX2 := ⟨⟨_, rfl⟩, rfl, rfl, rfl, by decide, by decide, by decide +kernel⟩
set_option maxHeartbeats 4000000 in
set_option maxRecDepth 100000 in
theorem m_X2_wanted {l : Launch} (hfl : l.stackTraces = false) {D : va_G} {cyI cyZ cyJ : ClassId} {h : Nat → Nat} {w : S2} {rx : Int32} {rw : S2} (hf : X2_wanted w = some (rx, rw)) : Ct ev_s l yX2_wanted wsX2_wanted rm_X2_wanted D (ty3 cyI cyZ cyJ) [.ref (h 0)] (wM cyI cyZ h w) (fun o => o = .inr (some (.int rx), wM cyI cyZ h rw)) 0 0 := by
  refine ct_of (cc := cX2_wanted) (nL := 5) (own := RX2) (ret := (some .int)) hfl (by decide) rfl rfl (Nat.le_of_ble_eq_true rfl) (fun p e s m args below meth c A C hr hnm => ?_)
  refine g_setQ (fun Q hQ => ?_)
  have kw0 := Cx.w C (.fieldLink RX2 16 "SleepBorderModel" "now" "[I") (by decide +kernel)
  have iX2 : ∀ w ∈ u_ws RX2 TX2 7, w ∈ wsX2_wanted := by decide +kernel
  have L28 : ∀ (l1 : Int32) (l2 : Int32) (l3 : Int32) (K : S2 → Option (Int32 × S2)) (hK : ∀ (w : S2), K w = some (rx, rw) → Gq p l e rm_X2_wanted s m args below meth c D A 5 Q (wM cyI cyZ h w) 0 0 44 [(0, .ref (h 0)), (1, .int l1), (2, .int l2), (3, .int l3)] []) (n : Nat) (l4 : Int32) (w : S2), X2_wanted_L28 K l1 l2 l3 n l4 w = some (rx, rw) → Gq p l e rm_X2_wanted s m args below meth c D A 5 Q (wM cyI cyZ h w) 0 0 28 [(0, .ref (h 0)), (1, .int l1), (2, .int l2), (3, .int l3), (4, .int l4)] [] := by
    intro l1 l2 l3 K hK n
    induction n with
    | zero => intro l4 w hf; simp [X2_wanted_L28] at hf
    | succ n ih =>
      intro l4 w hf
      rw [X2_wanted_L28] at hf
      refine g_iload C dX2_wanted_28 30 rfl 4 rfl ?_
      refine g_iload_n C dX2_wanted_30 31 rfl 2 rfl ?_
      refine g_icmp_ge C dX2_wanted_31 44 34 (by decide) rfl (fun c7 => ?_) (fun c7 => ?_)
      · have hf := ifp c7 hf
        refine g_lv [0, 1, 2, 3] (lv' := [(0, .ref (h 0)), (1, .int l1), (2, .int l2), (3, .int l3)]) rfl ?_
        exact hK w hf
      · have hf := ifn c7 hf
        refine g_aload_n C dX2_wanted_34 35 rfl 0 rfl ?_
        obtain ⟨w_8, e9, hf⟩ := bd1_s hf
        refine g_callV1 C (m_X2_hire hfl (h := h) e9) cf_X2_hire gX2_wanted_X2_hire ⟨Nat.le_of_ble_eq_true rfl, Nat.le_of_ble_eq_true rfl⟩ (q0 := 0) (As := []) (rest := []) (wl := []) (wr := []) (c2 := 0) (s2 := 0) rfl rfl rfl rfl rfl rfl (Nat.le_of_ble_eq_true rfl) rfl rfl ⟨Nat.le_of_ble_eq_true rfl, Nat.le_of_ble_eq_true rfl⟩ dX2_wanted_35 38 rfl (ws2 := wM cyI cyZ h w_8) rfl (st2 := []) rfl ?_
        refine g_iinc C dX2_wanted_38 41 rfl 4 rfl (ii_1 _) (by decide) (lv' := [(4, .int (l4 + 1)), (0, .ref (h 0)), (1, .int l1), (2, .int l2), (3, .int l3)]) rfl ?_
        refine g_goto C dX2_wanted_41 28 (by decide) ?_
        refine g_lv [1, 2, 3, 4, 0] (lv' := [(0, .ref (h 0)), (1, .int l1), (2, .int l2), (3, .int l3), (4, .int (l4 + 1))]) rfl ?_
        exact ih (l4 + 1) w_8 hf
  have L8 : ∀ (n : Nat) (l1 : Int32) (l2 : Int32) (w : S2), X2_wanted_L8 n l1 l2 w = some (rx, rw) → Gq p l e rm_X2_wanted s m args below meth c D A 5 Q (wM cyI cyZ h w) 0 0 8 [(0, .ref (h 0)), (1, .int l1), (2, .int l2)] [] := by
    intro n
    induction n with
    | zero => intro l1 l2 w hf; simp [X2_wanted_L8] at hf
    | succ n ih =>
      intro l1 l2 w hf
      rw [X2_wanted_L8] at hf
      refine g_iload_n C dX2_wanted_8 9 rfl 2 rfl ?_
      refine g_iconst C dX2_wanted_9 10 rfl ic_4 ?_
      refine g_icmp_gt C dX2_wanted_10 72 13 (by decide) rfl (fun c3 => ?_) (fun c3 => ?_)
      · have hf := ifp c3 hf
        refine g_iload_n C dX2_wanted_72 73 rfl 1 rfl ?_
        refine g_Q hQ ?_
        exact g_iret C hr (by cases hf; rfl) (Nat.le_of_ble_eq_true rfl) (Nat.le_of_ble_eq_true rfl) dX2_wanted_73
      · have hf := ifn c3 hf
        refine g_iload_n C dX2_wanted_13 14 rfl 1 rfl ?_
        refine g_iconst C dX2_wanted_14 15 rfl ic_m1 ?_
        refine g_icmp_ne C dX2_wanted_15 72 18 (by decide) rfl (fun c4 => ?_) (fun c4 => ?_)
        · have hf := ifn c4 hf
          refine g_iload_n C dX2_wanted_72 73 rfl 1 rfl ?_
          refine g_Q hQ ?_
          exact g_iret C hr (by cases hf; rfl) (Nat.le_of_ble_eq_true rfl) (Nat.le_of_ble_eq_true rfl) dX2_wanted_73
        · have hf := ifp c4 hf
          refine g_aload_n C dX2_wanted_18 19 rfl 0 rfl ?_
          refine g_get C iX2 0 rfl rfl 4 (by decide) kw0 rfl rfl dX2_wanted_19 22 rfl ?_
          refine g_iconst C dX2_wanted_22 23 rfl ic_1 ?_
          obtain ⟨x6, e5, hf⟩ := bd1_s hf
          refine g_iald C 3 0 rfl rfl e5 dX2_wanted_23 24 rfl ?_
          refine g_istore_n C dX2_wanted_24 25 rfl (by decide) (lv' := [(3, .int x6), (0, .ref (h 0)), (1, .int l1), (2, .int l2)]) rfl ?_
          refine g_iconst C dX2_wanted_25 26 rfl ic_0 ?_
          refine g_istore C dX2_wanted_26 28 rfl (by decide) (lv' := [(4, .int 0), (3, .int x6), (0, .ref (h 0)), (1, .int l1), (2, .int l2)]) rfl ?_
          refine g_lv [2, 3, 4, 1, 0] (lv' := [(0, .ref (h 0)), (1, .int l1), (2, .int l2), (3, .int x6), (4, .int 0)]) rfl ?_
          refine L28 l1 l2 x6 _ (fun w_10 hf => ?_) 200 0 w hf
          refine g_aload_n C dX2_wanted_44 45 rfl 0 rfl ?_
          refine g_bipush C dX2_wanted_45 47 rfl bp_60 ?_
          obtain ⟨w_11, e12, hf⟩ := bd1_s hf
          refine g_callV1 C (m_X2_minutesOn hfl (h := h) e12) cf_X2_minutesOn gX2_wanted_X2_minutesOn ⟨Nat.le_of_ble_eq_true rfl, Nat.le_of_ble_eq_true rfl⟩ (q0 := 0) (As := [.int 60]) (rest := []) (wl := []) (wr := []) (c2 := 0) (s2 := 0) rfl rfl rfl rfl rfl rfl (Nat.le_of_ble_eq_true rfl) rfl rfl ⟨Nat.le_of_ble_eq_true rfl, Nat.le_of_ble_eq_true rfl⟩ dX2_wanted_47 50 rfl (ws2 := wM cyI cyZ h w_11) rfl (st2 := []) rfl ?_
          refine g_aload_n C dX2_wanted_50 51 rfl 0 rfl ?_
          refine g_get C iX2 0 rfl rfl 4 (by decide) kw0 rfl rfl dX2_wanted_51 54 rfl ?_
          refine g_iconst C dX2_wanted_54 55 rfl ic_1 ?_
          obtain ⟨x14, e13, hf⟩ := bd1_s hf
          refine g_iald C 3 0 rfl rfl e13 dX2_wanted_55 56 rfl ?_
          refine g_iload_n C dX2_wanted_56 57 rfl 3 rfl ?_
          refine g_icmp_ne C dX2_wanted_57 62 60 (by decide) rfl (fun c15 => ?_) (fun c15 => ?_)
          · have hf := ifn c15 hf
            refine g_aload_n C dX2_wanted_62 63 rfl 0 rfl ?_
            obtain ⟨w_16, e17, hf⟩ := bd1_s hf
            refine g_callV1 C (m_X2_bringBack hfl (h := h) e17) cf_X2_bringBack gX2_wanted_X2_bringBack ⟨Nat.le_of_ble_eq_true rfl, Nat.le_of_ble_eq_true rfl⟩ (q0 := 0) (As := []) (rest := []) (wl := []) (wr := []) (c2 := 0) (s2 := 0) rfl rfl rfl rfl rfl rfl (Nat.le_of_ble_eq_true rfl) rfl rfl ⟨Nat.le_of_ble_eq_true rfl, Nat.le_of_ble_eq_true rfl⟩ dX2_wanted_63 66 rfl (ws2 := wM cyI cyZ h w_16) rfl (st2 := []) rfl ?_
            refine g_iinc C dX2_wanted_66 69 rfl 2 rfl (ii_1 _) (by decide) (lv' := [(2, .int (l2 + 1)), (0, .ref (h 0)), (1, .int l1), (3, .int x6)]) rfl ?_
            refine g_goto C dX2_wanted_69 8 (by decide) ?_
            refine g_lv [1, 2, 0] (lv' := [(0, .ref (h 0)), (1, .int l1), (2, .int (l2 + 1))]) rfl ?_
            exact ih l1 (l2 + 1) w_16 hf
          · have hf := ifp c15 hf
            refine g_iload_n C dX2_wanted_60 61 rfl 2 rfl ?_
            refine g_istore_n C dX2_wanted_61 62 rfl (by decide) (lv' := [(1, .int l2), (0, .ref (h 0)), (2, .int l2), (3, .int x6)]) rfl ?_
            refine g_aload_n C dX2_wanted_62 63 rfl 1 rfl ?_
            obtain ⟨w_18, e19, hf⟩ := bd1_s hf
            refine g_callV1 C (m_X2_bringBack hfl (h := h) e19) cf_X2_bringBack gX2_wanted_X2_bringBack ⟨Nat.le_of_ble_eq_true rfl, Nat.le_of_ble_eq_true rfl⟩ (q0 := 0) (As := []) (rest := []) (wl := []) (wr := []) (c2 := 0) (s2 := 0) rfl rfl rfl rfl rfl rfl (Nat.le_of_ble_eq_true rfl) rfl rfl ⟨Nat.le_of_ble_eq_true rfl, Nat.le_of_ble_eq_true rfl⟩ dX2_wanted_63 66 rfl (ws2 := wM cyI cyZ h w_18) rfl (st2 := []) rfl ?_
            refine g_iinc C dX2_wanted_66 69 rfl 2 rfl (ii_1 _) (by decide) (lv' := [(2, .int (l2 + 1)), (1, .int l2), (0, .ref (h 0)), (3, .int x6)]) rfl ?_
            refine g_goto C dX2_wanted_69 8 (by decide) ?_
            refine g_lv [2, 1, 0] (lv' := [(0, .ref (h 0)), (1, .int l2), (2, .int (l2 + 1))]) rfl ?_
            exact ih l2 (l2 + 1) w_18 hf
  unfold X2_wanted at hf
  refine g_lve (lv' := [(0, .ref (h 0))]) rfl ?_
  refine g_iconst C dX2_wanted_0 1 rfl ic_m1 ?_
  refine g_istore_n C dX2_wanted_1 2 rfl (by decide) (lv' := [(1, .int (-1)), (0, .ref (h 0))]) rfl ?_
  refine g_aload_n C dX2_wanted_2 3 rfl 1 rfl ?_
  obtain ⟨w_1, e2, hf⟩ := bd1_s hf
  refine g_callV1 C (m_X2_keep hfl (h := h) e2) cf_X2_keep gX2_wanted_X2_keep ⟨Nat.le_of_ble_eq_true rfl, Nat.le_of_ble_eq_true rfl⟩ (q0 := 0) (As := []) (rest := []) (wl := []) (wr := []) (c2 := 0) (s2 := 0) rfl rfl rfl rfl rfl rfl (Nat.le_of_ble_eq_true rfl) rfl rfl ⟨Nat.le_of_ble_eq_true rfl, Nat.le_of_ble_eq_true rfl⟩ dX2_wanted_3 6 rfl (ws2 := wM cyI cyZ h w_1) rfl (st2 := []) rfl ?_
  refine g_iconst C dX2_wanted_6 7 rfl ic_0 ?_
  refine g_istore_n C dX2_wanted_7 8 rfl (by decide) (lv' := [(2, .int 0), (1, .int (-1)), (0, .ref (h 0))]) rfl ?_
  refine g_lv [2, 1, 0] (lv' := [(0, .ref (h 0)), (1, .int (-1)), (2, .int 0)]) rfl ?_
  exact L8 200 (-1) 0 w_1 hf
abbrev rm_X2_guardsWanted : Room := { frames := 7, cells := 0, slots := 0, locals := 155 }
theorem cf_X2_guardsWanted : CF yX2_guardsWanted wsX2_guardsWanted rm_X2_guardsWanted cX2_guardsWanted 1 (some .int) 0 0 0 RX2 := ⟨⟨_, rfl⟩, rfl, rfl, rfl, by decide, by decide, by decide +kernel⟩
set_option maxHeartbeats 4000000 in
set_option maxRecDepth 100000 in
theorem m_X2_guardsWanted {l : Launch} (hfl : l.stackTraces = false) {D : va_G} {cyI cyZ cyJ : ClassId} {h : Nat → Nat} {w : S2} {rx : Int32} {rw : S2} (hf : X2_guardsWanted w = some (rx, rw)) : Ct ev_s l yX2_guardsWanted wsX2_guardsWanted rm_X2_guardsWanted D (ty3 cyI cyZ cyJ) [.ref (h 0)] (wM cyI cyZ h w) (fun o => o = .inr (some (.int rx), wM cyI cyZ h rw)) 0 0 := by
  refine ct_of (cc := cX2_guardsWanted) (nL := 1) (own := RX2) (ret := (some .int)) hfl (by decide) rfl rfl (Nat.le_of_ble_eq_true rfl) (fun p e s m args below meth c A C hr hnm => ?_)
  refine g_setQ (fun Q hQ => ?_)
  unfold X2_guardsWanted at hf
  refine g_lve (lv' := [(0, .ref (h 0))]) rfl ?_
  refine g_aload_n C dX2_guardsWanted_0 1 rfl 0 rfl ?_
  refine g_aload_n C dX2_guardsWanted_1 2 rfl 0 rfl ?_
  obtain ⟨x1, w_2, e3, hf⟩ := bd2_s hf
  refine g_callV1 C (m_X2_wanted hfl (h := h) e3) cf_X2_wanted gX2_guardsWanted_X2_wanted ⟨Nat.le_of_ble_eq_true rfl, Nat.le_of_ble_eq_true rfl⟩ (q0 := 0) (As := []) (rest := [.ref (h 0)]) (wl := []) (wr := []) (c2 := 0) (s2 := 0) rfl rfl rfl rfl rfl rfl (Nat.le_of_ble_eq_true rfl) rfl rfl ⟨Nat.le_of_ble_eq_true rfl, Nat.le_of_ble_eq_true rfl⟩ dX2_guardsWanted_2 5 rfl (ws2 := wM cyI cyZ h w_2) rfl (st2 := [.int x1, .ref (h 0)]) rfl ?_
  obtain ⟨x4, w_5, e6, hf⟩ := bd2_s hf
  refine g_callV1 C (m_X2_told hfl (h := h) e6) cf_X2_told gX2_guardsWanted_X2_told ⟨Nat.le_of_ble_eq_true rfl, Nat.le_of_ble_eq_true rfl⟩ (q0 := 0) (As := [.int x1]) (rest := []) (wl := []) (wr := []) (c2 := 0) (s2 := 0) rfl rfl rfl rfl rfl rfl (Nat.le_of_ble_eq_true rfl) rfl rfl ⟨Nat.le_of_ble_eq_true rfl, Nat.le_of_ble_eq_true rfl⟩ dX2_guardsWanted_5 8 rfl (ws2 := wM cyI cyZ h w_5) rfl (st2 := [.int x4]) rfl ?_
  refine g_Q hQ ?_
  exact g_iret C hr (by cases hf; rfl) (Nat.le_of_ble_eq_true rfl) (Nat.le_of_ble_eq_true rfl) dX2_guardsWanted_8
abbrev rm_X2_meanAlertness : Room := { frames := 1, cells := 0, slots := 0, locals := 22 }
theorem cf_X2_meanAlertness : CF yX2_meanAlertness wsX2_meanAlertness rm_X2_meanAlertness cX2_meanAlertness 3 (some .double) 0 0 0 RX2 := ⟨⟨_, rfl⟩, rfl, rfl, rfl, by decide, by decide, by decide +kernel⟩
set_option maxHeartbeats 4000000 in
set_option maxRecDepth 100000 in
theorem m_X2_meanAlertness {l : Launch} (hfl : l.stackTraces = false) {D : va_G} {cyI cyZ cyJ : ClassId} {h : Nat → Nat} {w : S2} {rx : UInt64} {rw : S2} (hf : X2_meanAlertness w = some (rx, rw)) : Ct ev_s l yX2_meanAlertness wsX2_meanAlertness rm_X2_meanAlertness D (ty3 cyI cyZ cyJ) [.ref (h 0)] (wM cyI cyZ h w) (fun o => o = .inr (some (.double rx), wM cyI cyZ h rw)) 0 0 := by
  refine ct_of (cc := cX2_meanAlertness) (nL := 3) (own := RX2) (ret := (some .double)) hfl (by decide) rfl rfl (Nat.le_of_ble_eq_true rfl) (fun p e s m args below meth c A C hr hnm => ?_)
  refine g_setQ (fun Q hQ => ?_)
  have kw0 := Cx.w C (.fieldLink RX2 26 "SleepBorderModel" "thrown" "I") (by decide +kernel)
  have kw1 := Cx.w C (.fieldLink RX2 16 "SleepBorderModel" "now" "[I") (by decide +kernel)
  have iX2 : ∀ w ∈ u_ws RX2 TX2 7, w ∈ wsX2_meanAlertness := by decide +kernel
  have L9 : ∀ (w : S2) (n : Nat) (l1 : Int32) (l2 : Int32), X2_meanAlertness_L9 w n l1 l2 = some (rx, rw) → Gq p l e rm_X2_meanAlertness s m args below meth c D A 3 Q (wM cyI cyZ h w) 0 0 9 [(0, .ref (h 0)), (1, .int l1), (2, .int l2)] [] := by
    intro w n
    induction n with
    | zero => intro l1 l2 hf; simp [X2_meanAlertness_L9] at hf
    | succ n ih =>
      intro l1 l2 hf
      rw [X2_meanAlertness_L9] at hf
      refine g_iload_n C dX2_meanAlertness_9 10 rfl 2 rfl ?_
      refine g_aload_n C dX2_meanAlertness_10 11 rfl 0 rfl ?_
      refine g_get C iX2 0 rfl rfl 4 (by decide) kw1 rfl rfl dX2_meanAlertness_11 14 rfl ?_
      refine g_iconst C dX2_meanAlertness_14 15 rfl ic_3 ?_
      obtain ⟨x4, e3, hf⟩ := bd1_s hf
      refine g_iald C 3 0 rfl rfl e3 dX2_meanAlertness_15 16 rfl ?_
      refine g_icmp_ge C dX2_meanAlertness_16 34 19 (by decide) rfl (fun c5 => ?_) (fun c5 => ?_)
      · have hf := ifp c5 hf
        refine g_aload_n C dX2_meanAlertness_34 35 rfl 0 rfl ?_
        refine g_get C iX2 0 rfl rfl 4 (by decide) kw1 rfl rfl dX2_meanAlertness_35 38 rfl ?_
        refine g_iconst C dX2_meanAlertness_38 39 rfl ic_3 ?_
        obtain ⟨x7, e6, hf⟩ := bd1_s hf
        refine g_iald C 3 0 rfl rfl e6 dX2_meanAlertness_39 40 rfl ?_
        refine g_if_ne C dX2_meanAlertness_40 47 43 (by decide) rfl (fun c8 => ?_) (fun c8 => ?_)
        · have hf := ifn c8 hf
          refine g_iload_n C dX2_meanAlertness_47 48 rfl 1 rfl ?_
          refine g_i2d C dX2_meanAlertness_48 49 rfl ?_
          refine g_aload_n C dX2_meanAlertness_49 50 rfl 0 rfl ?_
          refine g_get C iX2 0 rfl rfl 4 (by decide) kw1 rfl rfl dX2_meanAlertness_50 53 rfl ?_
          refine g_iconst C dX2_meanAlertness_53 54 rfl ic_3 ?_
          obtain ⟨x10, e9, hf⟩ := bd1_s hf
          refine g_iald C 3 0 rfl rfl e9 dX2_meanAlertness_54 55 rfl ?_
          refine g_i2d C dX2_meanAlertness_55 56 rfl ?_
          obtain ⟨_, e11, hf⟩ := bd1_s hf
          refine g_ddiv C (nn_s e11) dX2_meanAlertness_56 57 rfl ?_
          refine g_Q hQ ?_
          exact g_dret C hr (by cases hf; rfl) (Nat.le_of_ble_eq_true rfl) (Nat.le_of_ble_eq_true rfl) dX2_meanAlertness_57
        · have hf := ifp c8 hf
          refine g_dconst0 C dX2_meanAlertness_43 44 rfl ?_
          refine g_goto C dX2_meanAlertness_44 57 (by decide) ?_
          refine g_Q hQ ?_
          exact g_dret C hr (by cases hf; rfl) (Nat.le_of_ble_eq_true rfl) (Nat.le_of_ble_eq_true rfl) dX2_meanAlertness_57
      · have hf := ifn c5 hf
        refine g_iload_n C dX2_meanAlertness_19 20 rfl 1 rfl ?_
        refine g_aload_n C dX2_meanAlertness_20 21 rfl 0 rfl ?_
        refine g_iload_n C dX2_meanAlertness_21 22 rfl 2 rfl ?_
        refine g_iconst C dX2_meanAlertness_22 23 rfl ic_0 ?_
        obtain ⟨x12, e13, hf⟩ := bd1_s hf
        refine g_callV1 C (m_X2_gu hfl (h := h) e13) cf_X2_gu gX2_meanAlertness_X2_gu ⟨Nat.le_of_ble_eq_true rfl, Nat.le_of_ble_eq_true rfl⟩ (q0 := 0) (As := [.int l2, .int 0]) (rest := [.int l1]) (wl := []) (wr := []) (c2 := 0) (s2 := 0) rfl rfl rfl rfl rfl rfl (Nat.le_of_ble_eq_true rfl) rfl rfl ⟨Nat.le_of_ble_eq_true rfl, Nat.le_of_ble_eq_true rfl⟩ dX2_meanAlertness_23 26 rfl (ws2 := wM cyI cyZ h w) rfl (st2 := [.int x12, .int l1]) rfl ?_
        refine g_iadd C dX2_meanAlertness_26 27 rfl ?_
        refine g_istore_n C dX2_meanAlertness_27 28 rfl (by decide) (lv' := [(1, .int (l1 + x12)), (0, .ref (h 0)), (2, .int l2)]) rfl ?_
        refine g_iinc C dX2_meanAlertness_28 31 rfl 2 rfl (ii_1 _) (by decide) (lv' := [(2, .int (l2 + 1)), (1, .int (l1 + x12)), (0, .ref (h 0))]) rfl ?_
        refine g_goto C dX2_meanAlertness_31 9 (by decide) ?_
        refine g_lv [2, 1, 0] (lv' := [(0, .ref (h 0)), (1, .int (l1 + x12)), (2, .int (l2 + 1))]) rfl ?_
        exact ih (l1 + x12) (l2 + 1) hf
  unfold X2_meanAlertness at hf
  refine g_lve (lv' := [(0, .ref (h 0))]) rfl ?_
  refine g_aload_n C dX2_meanAlertness_0 1 rfl 0 rfl ?_
  refine g_iconst C dX2_meanAlertness_1 2 rfl ic_0 ?_
  obtain ⟨w_2, e1, hf⟩ := bd1_s hf
  refine g_put C iX2 tyX2 tyX2_ok nmX2 0 rfl rfl 0 (by decide) kw0 rfl rfl rfl (Nat.le_of_ble_eq_true rfl) (st_34 (cyI := cyI) (cyZ := cyZ) (cyJ := cyJ) e1) dX2_meanAlertness_2 5 rfl ?_
  refine g_iconst C dX2_meanAlertness_5 6 rfl ic_0 ?_
  refine g_istore_n C dX2_meanAlertness_6 7 rfl (by decide) (lv' := [(1, .int 0), (0, .ref (h 0))]) rfl ?_
  refine g_iconst C dX2_meanAlertness_7 8 rfl ic_0 ?_
  refine g_istore_n C dX2_meanAlertness_8 9 rfl (by decide) (lv' := [(2, .int 0), (1, .int 0), (0, .ref (h 0))]) rfl ?_
  refine g_lv [2, 1, 0] (lv' := [(0, .ref (h 0)), (1, .int 0), (2, .int 0)]) rfl ?_
  exact L9 w_2 200 0 0 hf
abbrev rm_X2_digest : Room := { frames := 7, cells := 26, slots := 163, locals := 155 }
theorem cf_X2_digest : CF yX2_digest wsX2_digest rm_X2_digest cX2_digest 10 (some .long) 0 26 163 RX2 := ⟨⟨_, rfl⟩, rfl, rfl, rfl, by decide, by decide, by decide +kernel⟩
set_option maxHeartbeats 4000000 in
set_option maxRecDepth 100000 in
theorem m_X2_digest {l : Launch} (hfl : l.stackTraces = false) {D : va_G} {cyI cyZ cyJ : ClassId} {h : Nat → Nat} {w : S2} {rx : Int64} {rw : S2} (hf : X2_digest w = some (rx, rw)) : Ct ev_s l yX2_digest wsX2_digest rm_X2_digest D (ty3 cyI cyZ cyJ) [.ref (h 0)] (wM cyI cyZ h w) (fun o => o = .inr (some (.long rx), wM cyI cyZ h rw)) 26 163 := by
  refine ct_of (cc := cX2_digest) (nL := 10) (own := RX2) (ret := (some .long)) hfl (by decide) rfl rfl (Nat.le_of_ble_eq_true rfl) (fun p e s m args below meth c A C hr hnm => ?_)
  refine g_setQ (fun Q hQ => ?_)
  have kw0 := Cx.w C (.fieldLink RX2 26 "SleepBorderModel" "thrown" "I") (by decide +kernel)
  have kw1 := Cx.w C (.arrayClass .int) (by decide +kernel)
  have kw2 := Cx.w C (.fieldLink RX2 16 "SleepBorderModel" "now" "[I") (by decide +kernel)
  have iX2 : ∀ w ∈ u_ws RX2 TX2 7, w ∈ wsX2_digest := by decide +kernel
  have kw4 := Cx.w C (.fieldLink RX2 30 "SleepBorderModel" "travellers" "I") (by decide +kernel)
  have kw5 := Cx.w C (.constantLong RX2 152 2131) (by decide +kernel)
  have kw6 := Cx.w C (.constantLong RX2 154 31) (by decide +kernel)
  have L305 : ∀ (l4 : Int32) (w : S2) (f13 : Nat → Int32) (z3 : Nat) (cells slots : Nat) (hc1 : cells ≤ 26) (hc2 : slots ≤ 163) (K : Int64 → Option (Int64 × S2)) (hK : ∀ (l2 : Int64), K l2 = some (rx, rw) → Gq p l e rm_X2_digest s m args below meth c D A 10 Q (wM cyI cyZ h w ++ wA cyI z3 13 f13) cells slots 333 [(0, .ref (h 0)), (2, .long l2), (4, .int l4)] []) (n : Nat) (l2 : Int64) (l5 : Int32), X2_digest_L305 K l4 w f13 n l2 l5 = some (rx, rw) → Gq p l e rm_X2_digest s m args below meth c D A 10 Q (wM cyI cyZ h w ++ wA cyI z3 13 f13) cells slots 305 [(0, .ref (h 0)), (2, .long l2), (4, .int l4), (5, .int l5)] [] := by
    intro l4 w f13 z3 cells slots hc1 hc2 K hK n
    induction n with
    | zero => intro l2 l5 hf; simp [X2_digest_L305] at hf
    | succ n ih =>
      intro l2 l5 hf
      rw [X2_digest_L305] at hf
      refine g_iload C dX2_digest_305 307 rfl 3 rfl ?_
      refine g_iconst C dX2_digest_307 308 rfl ic_3 ?_
      refine g_icmp_ge C dX2_digest_308 333 311 (by decide) rfl (fun c61 => ?_) (fun c61 => ?_)
      · have hf := ifp c61 hf
        refine g_lv [0, 1, 2] (lv' := [(0, .ref (h 0)), (2, .long l2), (4, .int l4)]) rfl ?_
        exact hK l2 hf
      · have hf := ifn c61 hf
        refine g_lload_n C dX2_digest_311 312 rfl 1 rfl ?_
        refine g_ldc2 C (v := 31) kw6 dX2_digest_312 315 rfl ?_
        refine g_lmul C dX2_digest_315 316 rfl ?_
        refine g_aload_n C dX2_digest_316 317 rfl 0 rfl ?_
        refine g_iload C dX2_digest_317 319 rfl 2 rfl ?_
        refine g_iload C dX2_digest_319 321 rfl 3 rfl ?_
        obtain ⟨x62, e63, hf⟩ := bd1_s hf
        refine g_callV1 C (m_X2_gu hfl (h := h) e63) cf_X2_gu gX2_digest_X2_gu ⟨Nat.le_of_ble_eq_true rfl, Nat.le_of_ble_eq_true rfl⟩ (q0 := 0) (As := [.int l4, .int l5]) (rest := [.long (l2 * 31)]) (wl := []) (wr := wA cyI z3 13 f13) (c2 := cells) (s2 := slots) rfl rfl rfl rfl rfl rfl (Nat.le_of_ble_eq_true rfl) rfl rfl ⟨(by show _ ≤ 26; omega), (by show _ ≤ 163; omega)⟩ dX2_digest_321 324 rfl (ws2 := wM cyI cyZ h w ++ wA cyI z3 13 f13) rfl (st2 := [.int x62, .long (l2 * 31)]) rfl ?_
        refine g_i2l C dX2_digest_324 325 rfl ?_
        refine g_ladd C dX2_digest_325 326 rfl ?_
        refine g_lstore_n C dX2_digest_326 327 rfl (by decide) (lv' := [(2, .long ((l2 * 31) + (Int32.toInt64 x62))), (0, .ref (h 0)), (4, .int l4), (5, .int l5)]) rfl ?_
        refine g_iinc C dX2_digest_327 330 rfl 3 rfl (ii_1 _) (by decide) (lv' := [(5, .int (l5 + 1)), (2, .long ((l2 * 31) + (Int32.toInt64 x62))), (0, .ref (h 0)), (4, .int l4)]) rfl ?_
        refine g_goto C dX2_digest_330 305 (by decide) ?_
        refine g_lv [2, 1, 3, 0] (lv' := [(0, .ref (h 0)), (2, .long ((l2 * 31) + (Int32.toInt64 x62))), (4, .int l4), (5, .int (l5 + 1))]) rfl ?_
        exact ih ((l2 * 31) + (Int32.toInt64 x62)) (l5 + 1) hf
  have L291 : ∀ (w : S2) (f13 : Nat → Int32) (z3 : Nat) (n : Nat) (l2 : Int64) (l4 : Int32) (cells slots : Nat), cells + n * 0 + 0 ≤ 26 → slots + n * 0 + 0 ≤ 163 → X2_digest_L291 w f13 n l2 l4 = some (rx, rw) → Gq p l e rm_X2_digest s m args below meth c D A 10 Q (wM cyI cyZ h w ++ wA cyI z3 13 f13) cells slots 291 [(0, .ref (h 0)), (2, .long l2), (4, .int l4)] [] := by
    intro w f13 z3 n
    induction n with
    | zero => intro l2 l4 cells slots hc1 hc2 hf; simp [X2_digest_L291] at hf
    | succ n ih =>
      intro l2 l4 cells slots hc1 hc2 hf
      rw [X2_digest_L291] at hf
      refine g_iload C dX2_digest_291 293 rfl 2 rfl ?_
      refine g_aload_n C dX2_digest_293 294 rfl 0 rfl ?_
      refine g_get C iX2 0 rfl rfl 4 (by decide) kw2 rfl rfl dX2_digest_294 297 rfl ?_
      refine g_iconst C dX2_digest_297 298 rfl ic_3 ?_
      obtain ⟨x59, e58, hf⟩ := bd1_s hf
      refine g_iald C 3 0 rfl rfl e58 dX2_digest_298 299 rfl ?_
      refine g_icmp_ge C dX2_digest_299 339 302 (by decide) rfl (fun c60 => ?_) (fun c60 => ?_)
      · have hf := ifp c60 hf
        refine g_lload_n C dX2_digest_339 340 rfl 1 rfl ?_
        refine g_left (ws' := wM cyI cyZ h w) rfl ?_
        refine g_Q hQ ?_
        exact g_lret C hr (by cases hf; rfl) (by omega) (by omega) dX2_digest_340
      · have hf := ifn c60 hf
        refine g_iconst C dX2_digest_302 303 rfl ic_0 ?_
        refine g_istore C dX2_digest_303 305 rfl (by decide) (lv' := [(5, .int 0), (0, .ref (h 0)), (2, .long l2), (4, .int l4)]) rfl ?_
        refine g_lv [1, 2, 3, 0] (lv' := [(0, .ref (h 0)), (2, .long l2), (4, .int l4), (5, .int 0)]) rfl ?_
        refine L305 l4 w f13 z3 cells slots (by omega) (by omega) _ (fun l2_64 hf => ?_) 200 l2 0 hf
        refine g_iinc C dX2_digest_333 336 rfl 2 rfl (ii_1 _) (by decide) (lv' := [(4, .int (l4 + 1)), (0, .ref (h 0)), (2, .long l2_64)]) rfl ?_
        refine g_goto C dX2_digest_336 291 (by decide) ?_
        refine g_lv [1, 2, 0] (lv' := [(0, .ref (h 0)), (2, .long l2_64), (4, .int (l4 + 1))]) rfl ?_
        exact ih l2_64 (l4 + 1) cells slots (by omega) (by omega) hf
  have L252 : ∀ (l4 : Int32) (l7 : Int32) (w : S2) (f13 : Nat → Int32) (f6 : Nat → Int32) (z3 : Nat) (z65 : Nat) (cells slots : Nat) (hc1 : cells ≤ 26) (hc2 : slots ≤ 163) (K : Int64 → Option (Int64 × S2)) (hK : ∀ (l2 : Int64), K l2 = some (rx, rw) → Gq p l e rm_X2_digest s m args below meth c D A 10 Q (wM cyI cyZ h w ++ (wA cyI z3 13 f13 ++ wA cyI z65 6 f6)) cells slots 282 [(0, .ref (h 0)), (2, .long l2), (4, .int l4)] []) (n : Nat) (l2 : Int64) (l8 : Int32), X2_digest_L252 K l4 l7 w f13 f6 n l2 l8 = some (rx, rw) → Gq p l e rm_X2_digest s m args below meth c D A 10 Q (wM cyI cyZ h w ++ (wA cyI z3 13 f13 ++ wA cyI z65 6 f6)) cells slots 252 [(0, .ref (h 0)), (2, .long l2), (4, .int l4), (6, .ref z65), (7, .int l7), (8, .int l8)] [] := by
    intro l4 l7 w f13 f6 z3 z65 cells slots hc1 hc2 K hK n
    induction n with
    | zero => intro l2 l8 hf; simp [X2_digest_L252] at hf
    | succ n ih =>
      intro l2 l8 hf
      rw [X2_digest_L252] at hf
      refine g_iload C dX2_digest_252 254 rfl 5 rfl ?_
      refine g_iload C dX2_digest_254 256 rfl 4 rfl ?_
      refine g_icmp_ge C dX2_digest_256 282 259 (by decide) rfl (fun c91 => ?_) (fun c91 => ?_)
      · have hf := ifp c91 hf
        refine g_lv [0, 1, 2] (lv' := [(0, .ref (h 0)), (2, .long l2), (4, .int l4)]) rfl ?_
        exact hK l2 hf
      · have hf := ifn c91 hf
        refine g_aload C dX2_digest_259 261 rfl 3 rfl ?_
        refine g_iload C dX2_digest_261 263 rfl 5 rfl ?_
        obtain ⟨x93, e92, hf⟩ := bd1_s hf
        refine g_iald C 7 0 rfl rfl e92 dX2_digest_263 264 rfl ?_
        refine g_istore C dX2_digest_264 266 rfl (by decide) (lv' := [(9, .int x93), (0, .ref (h 0)), (2, .long l2), (4, .int l4), (6, .ref z65), (7, .int l7), (8, .int l8)]) rfl ?_
        refine g_lload_n C dX2_digest_266 267 rfl 2 rfl ?_
        refine g_ldc2 C (v := 31) kw6 dX2_digest_267 270 rfl ?_
        refine g_lmul C dX2_digest_270 271 rfl ?_
        refine g_iload C dX2_digest_271 273 rfl 0 rfl ?_
        refine g_i2l C dX2_digest_273 274 rfl ?_
        refine g_ladd C dX2_digest_274 275 rfl ?_
        refine g_lstore_n C dX2_digest_275 276 rfl (by decide) (lv' := [(2, .long ((l2 * 31) + (Int32.toInt64 x93))), (9, .int x93), (0, .ref (h 0)), (4, .int l4), (6, .ref z65), (7, .int l7), (8, .int l8)]) rfl ?_
        refine g_iinc C dX2_digest_276 279 rfl 6 rfl (ii_1 _) (by decide) (lv' := [(8, .int (l8 + 1)), (2, .long ((l2 * 31) + (Int32.toInt64 x93))), (9, .int x93), (0, .ref (h 0)), (4, .int l4), (6, .ref z65), (7, .int l7)]) rfl ?_
        refine g_goto C dX2_digest_279 252 (by decide) ?_
        refine g_lv [3, 1, 4, 5, 6, 0] (lv' := [(0, .ref (h 0)), (2, .long ((l2 * 31) + (Int32.toInt64 x93))), (4, .int l4), (6, .ref z65), (7, .int l7), (8, .int (l8 + 1))]) rfl ?_
        exact ih ((l2 * 31) + (Int32.toInt64 x93)) (l8 + 1) hf
  have L169 : ∀ (f13 : Nat → Int32) (z3 : Nat) (n : Nat) (l2 : Int64) (l4 : Int32) (w : S2) (cells slots : Nat), cells + n * 1 + 0 ≤ 26 → slots + n * 6 + 0 ≤ 163 → X2_digest_L169 f13 n l2 l4 w = some (rx, rw) → Gq p l e rm_X2_digest s m args below meth c D A 10 Q (wM cyI cyZ h w ++ wA cyI z3 13 f13) cells slots 169 [(0, .ref (h 0)), (2, .long l2), (4, .int l4)] [] := by
    intro f13 z3 n
    induction n with
    | zero => intro l2 l4 w cells slots hc1 hc2 hf; simp [X2_digest_L169] at hf
    | succ n ih =>
      intro l2 l4 w cells slots hc1 hc2 hf
      rw [X2_digest_L169] at hf
      refine g_iload C dX2_digest_169 171 rfl 2 rfl ?_
      refine g_aload_n C dX2_digest_171 172 rfl 0 rfl ?_
      refine g_get C iX2 0 rfl rfl 1 (by decide) kw4 rfl rfl dX2_digest_172 175 rfl ?_
      refine g_icmp_ge C dX2_digest_175 288 178 (by decide) rfl (fun c57 => ?_) (fun c57 => ?_)
      · have hf := ifp c57 hf
        refine g_iconst C dX2_digest_288 289 rfl ic_0 ?_
        refine g_istore C dX2_digest_289 291 rfl (by decide) (lv' := [(4, .int 0), (0, .ref (h 0)), (2, .long l2)]) rfl ?_
        refine g_lv [1, 2, 0] (lv' := [(0, .ref (h 0)), (2, .long l2), (4, .int 0)]) rfl ?_
        exact L291 w f13 z3 200 l2 0 cells slots (by omega) (by omega) hf
      · have hf := ifn c57 hf
        refine g_bipush C dX2_digest_178 180 rfl bp_6 ?_
        refine g_newa C (atype := .int) (a0 := (6, .inl (fun _ => 0))) (n := 6) kw1 rfl (fun _ h => by cases h) 0 rfl 6 (fun _ => rfl) (by decide) rfl (by decide) (c2 := cells + 1) (s2 := slots + 6) rfl rfl (by show _ ≤ 26; omega) (by show _ ≤ 163; omega) dX2_digest_180 182 rfl (fun z65 => ?_)
        refine g_dup C dX2_digest_182 183 rfl rfl ?_
        refine g_iconst C dX2_digest_183 184 rfl ic_0 ?_
        refine g_aload_n C dX2_digest_184 185 rfl 0 rfl ?_
        refine g_iload C dX2_digest_185 187 rfl 2 rfl ?_
        refine g_iconst C dX2_digest_187 188 rfl ic_0 ?_
        obtain ⟨x66, e67, hf⟩ := bd1_s hf
        refine g_callV1 C (m_X2_tr hfl (h := h) e67) cf_X2_tr gX2_digest_X2_tr ⟨Nat.le_of_ble_eq_true rfl, Nat.le_of_ble_eq_true rfl⟩ (q0 := 0) (As := [.int l4, .int 0]) (rest := [.int 0, .ref z65, .ref z65]) (wl := []) (wr := wA cyI z3 13 f13 ++ wA cyI z65 6 (fun _ => 0)) (c2 := cells + 1) (s2 := slots + 6) rfl rfl rfl rfl rfl rfl (Nat.le_of_ble_eq_true rfl) rfl rfl ⟨(by show _ ≤ 26; omega), (by show _ ≤ 163; omega)⟩ dX2_digest_188 191 rfl (ws2 := wM cyI cyZ h w ++ (wA cyI z3 13 f13 ++ wA cyI z65 6 (fun _ => 0))) rfl (st2 := [.int x66, .int 0, .ref z65, .ref z65]) rfl ?_
        obtain ⟨f6_69, e68, hf⟩ := bd1_s hf
        refine g_iast C 7 0 rfl rfl (stF_in e68) (st_43 (cyI := cyI) (cyZ := cyZ) (cyJ := cyJ) e68) dX2_digest_191 192 rfl ?_
        refine g_dup C dX2_digest_192 193 rfl rfl ?_
        refine g_iconst C dX2_digest_193 194 rfl ic_1 ?_
        refine g_aload_n C dX2_digest_194 195 rfl 0 rfl ?_
        refine g_iload C dX2_digest_195 197 rfl 2 rfl ?_
        obtain ⟨x70, e71, hf⟩ := bd1_s hf
        refine g_callV1 C (m_X2_hidden hfl (h := h) e71) cf_X2_hidden gX2_digest_X2_hidden ⟨Nat.le_of_ble_eq_true rfl, Nat.le_of_ble_eq_true rfl⟩ (q0 := 0) (As := [.int l4]) (rest := [.int 1, .ref z65, .ref z65]) (wl := []) (wr := wA cyI z3 13 f13 ++ wA cyI z65 6 f6_69) (c2 := cells + 1) (s2 := slots + 6) rfl rfl rfl rfl rfl rfl (Nat.le_of_ble_eq_true rfl) rfl rfl ⟨(by show _ ≤ 26; omega), (by show _ ≤ 163; omega)⟩ dX2_digest_197 200 rfl (ws2 := wM cyI cyZ h w ++ (wA cyI z3 13 f13 ++ wA cyI z65 6 f6_69)) rfl (st2 := [.int x70, .int 1, .ref z65, .ref z65]) rfl ?_
        obtain ⟨f6_73, e72, hf⟩ := bd1_s hf
        refine g_iast C 7 0 rfl rfl (stF_in e72) (st_43 (cyI := cyI) (cyZ := cyZ) (cyJ := cyJ) e72) dX2_digest_200 201 rfl ?_
        refine g_dup C dX2_digest_201 202 rfl rfl ?_
        refine g_iconst C dX2_digest_202 203 rfl ic_2 ?_
        refine g_aload_n C dX2_digest_203 204 rfl 0 rfl ?_
        refine g_iload C dX2_digest_204 206 rfl 2 rfl ?_
        refine g_iconst C dX2_digest_206 207 rfl ic_1 ?_
        obtain ⟨x74, e75, hf⟩ := bd1_s hf
        refine g_callV1 C (m_X2_tr hfl (h := h) e75) cf_X2_tr gX2_digest_X2_tr ⟨Nat.le_of_ble_eq_true rfl, Nat.le_of_ble_eq_true rfl⟩ (q0 := 0) (As := [.int l4, .int 1]) (rest := [.int 2, .ref z65, .ref z65]) (wl := []) (wr := wA cyI z3 13 f13 ++ wA cyI z65 6 f6_73) (c2 := cells + 1) (s2 := slots + 6) rfl rfl rfl rfl rfl rfl (Nat.le_of_ble_eq_true rfl) rfl rfl ⟨(by show _ ≤ 26; omega), (by show _ ≤ 163; omega)⟩ dX2_digest_207 210 rfl (ws2 := wM cyI cyZ h w ++ (wA cyI z3 13 f13 ++ wA cyI z65 6 f6_73)) rfl (st2 := [.int x74, .int 2, .ref z65, .ref z65]) rfl ?_
        obtain ⟨f6_77, e76, hf⟩ := bd1_s hf
        refine g_iast C 7 0 rfl rfl (stF_in e76) (st_43 (cyI := cyI) (cyZ := cyZ) (cyJ := cyJ) e76) dX2_digest_210 211 rfl ?_
        refine g_dup C dX2_digest_211 212 rfl rfl ?_
        refine g_iconst C dX2_digest_212 213 rfl ic_3 ?_
        refine g_aload_n C dX2_digest_213 214 rfl 0 rfl ?_
        refine g_iload C dX2_digest_214 216 rfl 2 rfl ?_
        obtain ⟨x78, e79, hf⟩ := bd1_s hf
        refine g_callV1 C (m_X2_place hfl (h := h) e79) cf_X2_place gX2_digest_X2_place ⟨Nat.le_of_ble_eq_true rfl, Nat.le_of_ble_eq_true rfl⟩ (q0 := 0) (As := [.int l4]) (rest := [.int 3, .ref z65, .ref z65]) (wl := []) (wr := wA cyI z3 13 f13 ++ wA cyI z65 6 f6_77) (c2 := cells + 1) (s2 := slots + 6) rfl rfl rfl rfl rfl rfl (Nat.le_of_ble_eq_true rfl) rfl rfl ⟨(by show _ ≤ 26; omega), (by show _ ≤ 163; omega)⟩ dX2_digest_216 219 rfl (ws2 := wM cyI cyZ h w ++ (wA cyI z3 13 f13 ++ wA cyI z65 6 f6_77)) rfl (st2 := [.int x78, .int 3, .ref z65, .ref z65]) rfl ?_
        obtain ⟨f6_81, e80, hf⟩ := bd1_s hf
        refine g_iast C 7 0 rfl rfl (stF_in e80) (st_43 (cyI := cyI) (cyZ := cyZ) (cyJ := cyJ) e80) dX2_digest_219 220 rfl ?_
        refine g_dup C dX2_digest_220 221 rfl rfl ?_
        refine g_iconst C dX2_digest_221 222 rfl ic_4 ?_
        refine g_aload_n C dX2_digest_222 223 rfl 0 rfl ?_
        refine g_iload C dX2_digest_223 225 rfl 2 rfl ?_
        obtain ⟨x82, e83, hf⟩ := bd1_s hf
        refine g_callV1 C (m_X2_takes hfl (h := h) e83) cf_X2_takes gX2_digest_X2_takes ⟨Nat.le_of_ble_eq_true rfl, Nat.le_of_ble_eq_true rfl⟩ (q0 := 0) (As := [.int l4]) (rest := [.int 4, .ref z65, .ref z65]) (wl := []) (wr := wA cyI z3 13 f13 ++ wA cyI z65 6 f6_81) (c2 := cells + 1) (s2 := slots + 6) rfl rfl rfl rfl rfl rfl (Nat.le_of_ble_eq_true rfl) rfl rfl ⟨(by show _ ≤ 26; omega), (by show _ ≤ 163; omega)⟩ dX2_digest_225 228 rfl (ws2 := wM cyI cyZ h w ++ (wA cyI z3 13 f13 ++ wA cyI z65 6 f6_81)) rfl (st2 := [.int x82, .int 4, .ref z65, .ref z65]) rfl ?_
        obtain ⟨f6_85, e84, hf⟩ := bd1_s hf
        refine g_iast C 7 0 rfl rfl (stF_in e84) (st_43 (cyI := cyI) (cyZ := cyZ) (cyJ := cyJ) e84) dX2_digest_228 229 rfl ?_
        refine g_dup C dX2_digest_229 230 rfl rfl ?_
        refine g_iconst C dX2_digest_230 231 rfl ic_5 ?_
        refine g_aload_n C dX2_digest_231 232 rfl 0 rfl ?_
        refine g_iload C dX2_digest_232 234 rfl 2 rfl ?_
        obtain ⟨x86, w_87, e88, hf⟩ := bd2_s hf
        refine g_callV1 C (m_X2_until hfl (h := h) e88) cf_X2_until gX2_digest_X2_until ⟨Nat.le_of_ble_eq_true rfl, Nat.le_of_ble_eq_true rfl⟩ (q0 := 0) (As := [.int l4]) (rest := [.int 5, .ref z65, .ref z65]) (wl := []) (wr := wA cyI z3 13 f13 ++ wA cyI z65 6 f6_85) (c2 := cells + 1) (s2 := slots + 6) rfl rfl rfl rfl rfl rfl (Nat.le_of_ble_eq_true rfl) rfl rfl ⟨(by show _ ≤ 26; omega), (by show _ ≤ 163; omega)⟩ dX2_digest_234 237 rfl (ws2 := wM cyI cyZ h w_87 ++ (wA cyI z3 13 f13 ++ wA cyI z65 6 f6_85)) rfl (st2 := [.int x86, .int 5, .ref z65, .ref z65]) rfl ?_
        obtain ⟨f6_90, e89, hf⟩ := bd1_s hf
        refine g_iast C 7 0 rfl rfl (stF_in e89) (st_43 (cyI := cyI) (cyZ := cyZ) (cyJ := cyJ) e89) dX2_digest_237 238 rfl ?_
        refine g_astore C dX2_digest_238 240 rfl (by decide) (lv' := [(5, .ref z65), (0, .ref (h 0)), (2, .long l2), (4, .int l4)]) rfl ?_
        refine g_aload C dX2_digest_240 242 rfl 0 rfl ?_
        refine g_astore C dX2_digest_242 244 rfl (by decide) (lv' := [(6, .ref z65), (5, .ref z65), (0, .ref (h 0)), (2, .long l2), (4, .int l4)]) rfl ?_
        refine g_aload C dX2_digest_244 246 rfl 0 rfl ?_
        refine g_alen C 7 0 rfl rfl (v := 6) rfl dX2_digest_246 247 rfl ?_
        refine g_istore C dX2_digest_247 249 rfl (by decide) (lv' := [(7, .int 6), (6, .ref z65), (5, .ref z65), (0, .ref (h 0)), (2, .long l2), (4, .int l4)]) rfl ?_
        refine g_iconst C dX2_digest_249 250 rfl ic_0 ?_
        refine g_istore C dX2_digest_250 252 rfl (by decide) (lv' := [(8, .int 0), (7, .int 6), (6, .ref z65), (5, .ref z65), (0, .ref (h 0)), (2, .long l2), (4, .int l4)]) rfl ?_
        refine g_lv [4, 5, 6, 2, 1, 0] (lv' := [(0, .ref (h 0)), (2, .long l2), (4, .int l4), (6, .ref z65), (7, .int 6), (8, .int 0)]) rfl ?_
        refine L252 l4 6 w_87 f13 f6_90 z3 z65 (cells + 1) (slots + 6) (by omega) (by omega) _ (fun l2_94 hf => ?_) 200 l2 0 hf
        refine g_iinc C dX2_digest_282 285 rfl 2 rfl (ii_1 _) (by decide) (lv' := [(4, .int (l4 + 1)), (0, .ref (h 0)), (2, .long l2_94)]) rfl ?_
        refine g_goto C dX2_digest_285 169 (by decide) ?_
        refine g_left (ws' := wM cyI cyZ h w_87 ++ wA cyI z3 13 f13) rfl ?_
        refine g_lv [1, 2, 0] (lv' := [(0, .ref (h 0)), (2, .long l2_94), (4, .int (l4 + 1))]) rfl ?_
        exact ih l2_94 (l4 + 1) w_87 (cells + 1) (slots + 6) (by omega) (by omega) hf
  have L136 : ∀ (l5 : Int32) (w : S2) (f13 : Nat → Int32) (z3 : Nat) (n : Nat) (l2 : Int64) (l6 : Int32) (cells slots : Nat), cells + n * 0 + 25 ≤ 26 → slots + n * 0 + 150 ≤ 163 → X2_digest_L136 l5 w f13 n l2 l6 = some (rx, rw) → Gq p l e rm_X2_digest s m args below meth c D A 10 Q (wM cyI cyZ h w ++ wA cyI z3 13 f13) cells slots 136 [(0, .ref (h 0)), (2, .long l2), (4, .ref z3), (5, .int l5), (6, .int l6)] [] := by
    intro l5 w f13 z3 n
    induction n with
    | zero => intro l2 l6 cells slots hc1 hc2 hf; simp [X2_digest_L136] at hf
    | succ n ih =>
      intro l2 l6 cells slots hc1 hc2 hf
      rw [X2_digest_L136] at hf
      refine g_iload C dX2_digest_136 138 rfl 4 rfl ?_
      refine g_iload C dX2_digest_138 140 rfl 3 rfl ?_
      refine g_icmp_ge C dX2_digest_140 166 143 (by decide) rfl (fun c56 => ?_) (fun c56 => ?_)
      · have hf := ifp c56 hf
        refine g_iconst C dX2_digest_166 167 rfl ic_0 ?_
        refine g_istore C dX2_digest_167 169 rfl (by decide) (lv' := [(4, .int 0), (0, .ref (h 0)), (2, .long l2), (5, .int l5), (6, .int l6)]) rfl ?_
        refine g_lv [1, 2, 0] (lv' := [(0, .ref (h 0)), (2, .long l2), (4, .int 0)]) rfl ?_
        exact L169 f13 z3 25 l2 0 w cells slots (by omega) (by omega) hf
      · have hf := ifn c56 hf
        refine g_aload C dX2_digest_143 145 rfl 2 rfl ?_
        refine g_iload C dX2_digest_145 147 rfl 4 rfl ?_
        obtain ⟨x96, e95, hf⟩ := bd1_s hf
        refine g_iald C 6 0 rfl rfl e95 dX2_digest_147 148 rfl ?_
        refine g_istore C dX2_digest_148 150 rfl (by decide) (lv' := [(7, .int x96), (0, .ref (h 0)), (2, .long l2), (4, .ref z3), (5, .int l5), (6, .int l6)]) rfl ?_
        refine g_lload_n C dX2_digest_150 151 rfl 2 rfl ?_
        refine g_ldc2 C (v := 31) kw6 dX2_digest_151 154 rfl ?_
        refine g_lmul C dX2_digest_154 155 rfl ?_
        refine g_iload C dX2_digest_155 157 rfl 0 rfl ?_
        refine g_i2l C dX2_digest_157 158 rfl ?_
        refine g_ladd C dX2_digest_158 159 rfl ?_
        refine g_lstore_n C dX2_digest_159 160 rfl (by decide) (lv' := [(2, .long ((l2 * 31) + (Int32.toInt64 x96))), (7, .int x96), (0, .ref (h 0)), (4, .ref z3), (5, .int l5), (6, .int l6)]) rfl ?_
        refine g_iinc C dX2_digest_160 163 rfl 5 rfl (ii_1 _) (by decide) (lv' := [(6, .int (l6 + 1)), (2, .long ((l2 * 31) + (Int32.toInt64 x96))), (7, .int x96), (0, .ref (h 0)), (4, .ref z3), (5, .int l5)]) rfl ?_
        refine g_goto C dX2_digest_163 136 (by decide) ?_
        refine g_lv [3, 1, 4, 5, 0] (lv' := [(0, .ref (h 0)), (2, .long ((l2 * 31) + (Int32.toInt64 x96))), (4, .ref z3), (5, .int l5), (6, .int (l6 + 1))]) rfl ?_
        exact ih ((l2 * 31) + (Int32.toInt64 x96)) (l6 + 1) cells slots (by omega) (by omega) hf
  unfold X2_digest at hf
  refine g_lve (lv' := [(0, .ref (h 0))]) rfl ?_
  refine g_aload_n C dX2_digest_0 1 rfl 0 rfl ?_
  refine g_iconst C dX2_digest_1 2 rfl ic_0 ?_
  obtain ⟨w_2, e1, hf⟩ := bd1_s hf
  refine g_put C iX2 tyX2 tyX2_ok nmX2 0 rfl rfl 0 (by decide) kw0 rfl rfl rfl (Nat.le_of_ble_eq_true rfl) (st_34 (cyI := cyI) (cyZ := cyZ) (cyJ := cyJ) e1) dX2_digest_2 5 rfl ?_
  refine g_bipush C dX2_digest_5 7 rfl bp_13 ?_
  refine g_newa C (atype := .int) (a0 := (13, .inl (fun _ => 0))) (n := 13) kw1 rfl (fun _ h => by cases h) 0 rfl 13 (fun _ => rfl) (by decide) rfl (by decide) (c2 := 1) (s2 := 13) rfl rfl (Nat.le_of_ble_eq_true rfl) (Nat.le_of_ble_eq_true rfl) dX2_digest_7 9 rfl (fun z3 => ?_)
  refine g_dup C dX2_digest_9 10 rfl rfl ?_
  refine g_iconst C dX2_digest_10 11 rfl ic_0 ?_
  refine g_aload_n C dX2_digest_11 12 rfl 0 rfl ?_
  refine g_get C iX2 0 rfl rfl 4 (by decide) kw2 rfl rfl dX2_digest_12 15 rfl ?_
  refine g_iconst C dX2_digest_15 16 rfl ic_0 ?_
  obtain ⟨x5, e4, hf⟩ := bd1_s hf
  refine g_iald C 3 0 rfl rfl e4 dX2_digest_16 17 rfl ?_
  obtain ⟨f13_7, e6, hf⟩ := bd1_s hf
  refine g_iast C 6 0 rfl rfl (stF_in e6) (st_42 (cyI := cyI) (cyZ := cyZ) (cyJ := cyJ) e6) dX2_digest_17 18 rfl ?_
  refine g_dup C dX2_digest_18 19 rfl rfl ?_
  refine g_iconst C dX2_digest_19 20 rfl ic_1 ?_
  refine g_aload_n C dX2_digest_20 21 rfl 0 rfl ?_
  refine g_get C iX2 0 rfl rfl 1 (by decide) kw4 rfl rfl dX2_digest_21 24 rfl ?_
  obtain ⟨f13_9, e8, hf⟩ := bd1_s hf
  refine g_iast C 6 0 rfl rfl (stF_in e8) (st_42 (cyI := cyI) (cyZ := cyZ) (cyJ := cyJ) e8) dX2_digest_24 25 rfl ?_
  refine g_dup C dX2_digest_25 26 rfl rfl ?_
  refine g_iconst C dX2_digest_26 27 rfl ic_2 ?_
  refine g_aload_n C dX2_digest_27 28 rfl 0 rfl ?_
  refine g_iconst C dX2_digest_28 29 rfl ic_0 ?_
  obtain ⟨x10, e11, hf⟩ := bd1_s hf
  refine g_callV1 C (m_X2_count hfl (h := h) e11) cf_X2_count gX2_digest_X2_count ⟨Nat.le_of_ble_eq_true rfl, Nat.le_of_ble_eq_true rfl⟩ (q0 := 0) (As := [.int 0]) (rest := [.int 2, .ref z3, .ref z3]) (wl := []) (wr := wA cyI z3 13 f13_9) (c2 := 1) (s2 := 13) rfl rfl rfl rfl rfl rfl (Nat.le_of_ble_eq_true rfl) rfl rfl ⟨Nat.le_of_ble_eq_true rfl, Nat.le_of_ble_eq_true rfl⟩ dX2_digest_29 32 rfl (ws2 := wM cyI cyZ h w_2 ++ wA cyI z3 13 f13_9) rfl (st2 := [.int x10, .int 2, .ref z3, .ref z3]) rfl ?_
  obtain ⟨f13_13, e12, hf⟩ := bd1_s hf
  refine g_iast C 6 0 rfl rfl (stF_in e12) (st_42 (cyI := cyI) (cyZ := cyZ) (cyJ := cyJ) e12) dX2_digest_32 33 rfl ?_
  refine g_dup C dX2_digest_33 34 rfl rfl ?_
  refine g_iconst C dX2_digest_34 35 rfl ic_3 ?_
  refine g_aload_n C dX2_digest_35 36 rfl 0 rfl ?_
  refine g_iconst C dX2_digest_36 37 rfl ic_3 ?_
  obtain ⟨x14, e15, hf⟩ := bd1_s hf
  refine g_callV1 C (m_X2_count hfl (h := h) e15) cf_X2_count gX2_digest_X2_count ⟨Nat.le_of_ble_eq_true rfl, Nat.le_of_ble_eq_true rfl⟩ (q0 := 0) (As := [.int 3]) (rest := [.int 3, .ref z3, .ref z3]) (wl := []) (wr := wA cyI z3 13 f13_13) (c2 := 1) (s2 := 13) rfl rfl rfl rfl rfl rfl (Nat.le_of_ble_eq_true rfl) rfl rfl ⟨Nat.le_of_ble_eq_true rfl, Nat.le_of_ble_eq_true rfl⟩ dX2_digest_37 40 rfl (ws2 := wM cyI cyZ h w_2 ++ wA cyI z3 13 f13_13) rfl (st2 := [.int x14, .int 3, .ref z3, .ref z3]) rfl ?_
  obtain ⟨f13_17, e16, hf⟩ := bd1_s hf
  refine g_iast C 6 0 rfl rfl (stF_in e16) (st_42 (cyI := cyI) (cyZ := cyZ) (cyJ := cyJ) e16) dX2_digest_40 41 rfl ?_
  refine g_dup C dX2_digest_41 42 rfl rfl ?_
  refine g_iconst C dX2_digest_42 43 rfl ic_4 ?_
  refine g_aload_n C dX2_digest_43 44 rfl 0 rfl ?_
  refine g_iconst C dX2_digest_44 45 rfl ic_4 ?_
  obtain ⟨x18, e19, hf⟩ := bd1_s hf
  refine g_callV1 C (m_X2_count hfl (h := h) e19) cf_X2_count gX2_digest_X2_count ⟨Nat.le_of_ble_eq_true rfl, Nat.le_of_ble_eq_true rfl⟩ (q0 := 0) (As := [.int 4]) (rest := [.int 4, .ref z3, .ref z3]) (wl := []) (wr := wA cyI z3 13 f13_17) (c2 := 1) (s2 := 13) rfl rfl rfl rfl rfl rfl (Nat.le_of_ble_eq_true rfl) rfl rfl ⟨Nat.le_of_ble_eq_true rfl, Nat.le_of_ble_eq_true rfl⟩ dX2_digest_45 48 rfl (ws2 := wM cyI cyZ h w_2 ++ wA cyI z3 13 f13_17) rfl (st2 := [.int x18, .int 4, .ref z3, .ref z3]) rfl ?_
  obtain ⟨f13_21, e20, hf⟩ := bd1_s hf
  refine g_iast C 6 0 rfl rfl (stF_in e20) (st_42 (cyI := cyI) (cyZ := cyZ) (cyJ := cyJ) e20) dX2_digest_48 49 rfl ?_
  refine g_dup C dX2_digest_49 50 rfl rfl ?_
  refine g_iconst C dX2_digest_50 51 rfl ic_5 ?_
  refine g_aload_n C dX2_digest_51 52 rfl 0 rfl ?_
  refine g_get C iX2 0 rfl rfl 4 (by decide) kw2 rfl rfl dX2_digest_52 55 rfl ?_
  refine g_iconst C dX2_digest_55 56 rfl ic_1 ?_
  obtain ⟨x23, e22, hf⟩ := bd1_s hf
  refine g_iald C 3 0 rfl rfl e22 dX2_digest_56 57 rfl ?_
  obtain ⟨f13_25, e24, hf⟩ := bd1_s hf
  refine g_iast C 6 0 rfl rfl (stF_in e24) (st_42 (cyI := cyI) (cyZ := cyZ) (cyJ := cyJ) e24) dX2_digest_57 58 rfl ?_
  refine g_dup C dX2_digest_58 59 rfl rfl ?_
  refine g_bipush C dX2_digest_59 61 rfl bp_6 ?_
  refine g_aload_n C dX2_digest_61 62 rfl 0 rfl ?_
  refine g_get C iX2 0 rfl rfl 4 (by decide) kw2 rfl rfl dX2_digest_62 65 rfl ?_
  refine g_iconst C dX2_digest_65 66 rfl ic_2 ?_
  obtain ⟨x27, e26, hf⟩ := bd1_s hf
  refine g_iald C 3 0 rfl rfl e26 dX2_digest_66 67 rfl ?_
  obtain ⟨f13_29, e28, hf⟩ := bd1_s hf
  refine g_iast C 6 0 rfl rfl (stF_in e28) (st_42 (cyI := cyI) (cyZ := cyZ) (cyJ := cyJ) e28) dX2_digest_67 68 rfl ?_
  refine g_dup C dX2_digest_68 69 rfl rfl ?_
  refine g_bipush C dX2_digest_69 71 rfl bp_7 ?_
  refine g_aload_n C dX2_digest_71 72 rfl 0 rfl ?_
  obtain ⟨x30, e31, hf⟩ := bd1_s hf
  refine g_callV1 C (m_X2_loud hfl (h := h) e31) cf_X2_loud gX2_digest_X2_loud ⟨Nat.le_of_ble_eq_true rfl, Nat.le_of_ble_eq_true rfl⟩ (q0 := 0) (As := []) (rest := [.int 7, .ref z3, .ref z3]) (wl := []) (wr := wA cyI z3 13 f13_29) (c2 := 1) (s2 := 13) rfl rfl rfl rfl rfl rfl (Nat.le_of_ble_eq_true rfl) rfl rfl ⟨Nat.le_of_ble_eq_true rfl, Nat.le_of_ble_eq_true rfl⟩ dX2_digest_72 75 rfl (ws2 := wM cyI cyZ h w_2 ++ wA cyI z3 13 f13_29) rfl (st2 := [.int x30, .int 7, .ref z3, .ref z3]) rfl ?_
  obtain ⟨f13_33, e32, hf⟩ := bd1_s hf
  refine g_iast C 6 0 rfl rfl (stF_in e32) (st_42 (cyI := cyI) (cyZ := cyZ) (cyJ := cyJ) e32) dX2_digest_75 76 rfl ?_
  refine g_dup C dX2_digest_76 77 rfl rfl ?_
  refine g_bipush C dX2_digest_77 79 rfl bp_8 ?_
  refine g_aload_n C dX2_digest_79 80 rfl 0 rfl ?_
  obtain ⟨x34, e35, hf⟩ := bd1_s hf
  refine g_callV1 C (m_X2_first hfl (h := h) e35) cf_X2_first gX2_digest_X2_first ⟨Nat.le_of_ble_eq_true rfl, Nat.le_of_ble_eq_true rfl⟩ (q0 := 0) (As := []) (rest := [.int 8, .ref z3, .ref z3]) (wl := []) (wr := wA cyI z3 13 f13_33) (c2 := 1) (s2 := 13) rfl rfl rfl rfl rfl rfl (Nat.le_of_ble_eq_true rfl) rfl rfl ⟨Nat.le_of_ble_eq_true rfl, Nat.le_of_ble_eq_true rfl⟩ dX2_digest_80 83 rfl (ws2 := wM cyI cyZ h w_2 ++ wA cyI z3 13 f13_33) rfl (st2 := [.int x34, .int 8, .ref z3, .ref z3]) rfl ?_
  obtain ⟨f13_37, e36, hf⟩ := bd1_s hf
  refine g_iast C 6 0 rfl rfl (stF_in e36) (st_42 (cyI := cyI) (cyZ := cyZ) (cyJ := cyJ) e36) dX2_digest_83 84 rfl ?_
  refine g_dup C dX2_digest_84 85 rfl rfl ?_
  refine g_bipush C dX2_digest_85 87 rfl bp_9 ?_
  refine g_aload_n C dX2_digest_87 88 rfl 0 rfl ?_
  refine g_get C iX2 0 rfl rfl 4 (by decide) kw2 rfl rfl dX2_digest_88 91 rfl ?_
  refine g_iconst C dX2_digest_91 92 rfl ic_3 ?_
  obtain ⟨x39, e38, hf⟩ := bd1_s hf
  refine g_iald C 3 0 rfl rfl e38 dX2_digest_92 93 rfl ?_
  obtain ⟨f13_41, e40, hf⟩ := bd1_s hf
  refine g_iast C 6 0 rfl rfl (stF_in e40) (st_42 (cyI := cyI) (cyZ := cyZ) (cyJ := cyJ) e40) dX2_digest_93 94 rfl ?_
  refine g_dup C dX2_digest_94 95 rfl rfl ?_
  refine g_bipush C dX2_digest_95 97 rfl bp_10 ?_
  refine g_aload_n C dX2_digest_97 98 rfl 0 rfl ?_
  obtain ⟨x42, e43, hf⟩ := bd1_s hf
  refine g_callV1 C (m_X2_alertest hfl (h := h) e43) cf_X2_alertest gX2_digest_X2_alertest ⟨Nat.le_of_ble_eq_true rfl, Nat.le_of_ble_eq_true rfl⟩ (q0 := 0) (As := []) (rest := [.int 10, .ref z3, .ref z3]) (wl := []) (wr := wA cyI z3 13 f13_41) (c2 := 1) (s2 := 13) rfl rfl rfl rfl rfl rfl (Nat.le_of_ble_eq_true rfl) rfl rfl ⟨Nat.le_of_ble_eq_true rfl, Nat.le_of_ble_eq_true rfl⟩ dX2_digest_98 101 rfl (ws2 := wM cyI cyZ h w_2 ++ wA cyI z3 13 f13_41) rfl (st2 := [.int x42, .int 10, .ref z3, .ref z3]) rfl ?_
  obtain ⟨f13_45, e44, hf⟩ := bd1_s hf
  refine g_iast C 6 0 rfl rfl (stF_in e44) (st_42 (cyI := cyI) (cyZ := cyZ) (cyJ := cyJ) e44) dX2_digest_101 102 rfl ?_
  refine g_dup C dX2_digest_102 103 rfl rfl ?_
  refine g_bipush C dX2_digest_103 105 rfl bp_11 ?_
  refine g_aload_n C dX2_digest_105 106 rfl 0 rfl ?_
  refine g_bipush C dX2_digest_106 108 rfl bp_30 ?_
  obtain ⟨x46, w_47, e48, hf⟩ := bd2_s hf
  refine g_callV1 C (m_X2_sleepers hfl (h := h) e48) cf_X2_sleepers gX2_digest_X2_sleepers ⟨Nat.le_of_ble_eq_true rfl, Nat.le_of_ble_eq_true rfl⟩ (q0 := 0) (As := [.int 30]) (rest := [.int 11, .ref z3, .ref z3]) (wl := []) (wr := wA cyI z3 13 f13_45) (c2 := 1) (s2 := 13) rfl rfl rfl rfl rfl rfl (Nat.le_of_ble_eq_true rfl) rfl rfl ⟨Nat.le_of_ble_eq_true rfl, Nat.le_of_ble_eq_true rfl⟩ dX2_digest_108 111 rfl (ws2 := wM cyI cyZ h w_47 ++ wA cyI z3 13 f13_45) rfl (st2 := [.int x46, .int 11, .ref z3, .ref z3]) rfl ?_
  obtain ⟨f13_50, e49, hf⟩ := bd1_s hf
  refine g_iast C 6 0 rfl rfl (stF_in e49) (st_42 (cyI := cyI) (cyZ := cyZ) (cyJ := cyJ) e49) dX2_digest_111 112 rfl ?_
  refine g_dup C dX2_digest_112 113 rfl rfl ?_
  refine g_bipush C dX2_digest_113 115 rfl bp_12 ?_
  refine g_aload_n C dX2_digest_115 116 rfl 0 rfl ?_
  obtain ⟨x51, w_52, e53, hf⟩ := bd2_s hf
  refine g_callV1 C (m_X2_wanted hfl (h := h) e53) cf_X2_wanted gX2_digest_X2_wanted ⟨Nat.le_of_ble_eq_true rfl, Nat.le_of_ble_eq_true rfl⟩ (q0 := 0) (As := []) (rest := [.int 12, .ref z3, .ref z3]) (wl := []) (wr := wA cyI z3 13 f13_50) (c2 := 1) (s2 := 13) rfl rfl rfl rfl rfl rfl (Nat.le_of_ble_eq_true rfl) rfl rfl ⟨Nat.le_of_ble_eq_true rfl, Nat.le_of_ble_eq_true rfl⟩ dX2_digest_116 119 rfl (ws2 := wM cyI cyZ h w_52 ++ wA cyI z3 13 f13_50) rfl (st2 := [.int x51, .int 12, .ref z3, .ref z3]) rfl ?_
  obtain ⟨f13_55, e54, hf⟩ := bd1_s hf
  refine g_iast C 6 0 rfl rfl (stF_in e54) (st_42 (cyI := cyI) (cyZ := cyZ) (cyJ := cyJ) e54) dX2_digest_119 120 rfl ?_
  refine g_astore_n C dX2_digest_120 121 rfl (by decide) (lv' := [(1, .ref z3), (0, .ref (h 0))]) rfl ?_
  refine g_ldc2 C (v := 2131) kw5 dX2_digest_121 124 rfl ?_
  refine g_lstore_n C dX2_digest_124 125 rfl (by decide) (lv' := [(2, .long 2131), (1, .ref z3), (0, .ref (h 0))]) rfl ?_
  refine g_aload_n C dX2_digest_125 126 rfl 1 rfl ?_
  refine g_astore C dX2_digest_126 128 rfl (by decide) (lv' := [(4, .ref z3), (2, .long 2131), (1, .ref z3), (0, .ref (h 0))]) rfl ?_
  refine g_aload C dX2_digest_128 130 rfl 0 rfl ?_
  refine g_alen C 6 0 rfl rfl (v := 13) rfl dX2_digest_130 131 rfl ?_
  refine g_istore C dX2_digest_131 133 rfl (by decide) (lv' := [(5, .int 13), (4, .ref z3), (2, .long 2131), (1, .ref z3), (0, .ref (h 0))]) rfl ?_
  refine g_iconst C dX2_digest_133 134 rfl ic_0 ?_
  refine g_istore C dX2_digest_134 136 rfl (by decide) (lv' := [(6, .int 0), (5, .int 13), (4, .ref z3), (2, .long 2131), (1, .ref z3), (0, .ref (h 0))]) rfl ?_
  refine g_lv [5, 3, 2, 1, 0] (lv' := [(0, .ref (h 0)), (2, .long 2131), (4, .ref z3), (5, .int 13), (6, .int 0)]) rfl ?_
  exact L136 13 w_52 f13_55 z3 200 2131 0 1 13 (Nat.le_of_ble_eq_true rfl) (Nat.le_of_ble_eq_true rfl) hf
