/-! the machine does what the functions say (laid by wip/p35/gen) -/
abbrev rm_X0_admitGuard : Room := { frames := 0, cells := 0, slots := 0, locals := 0 }
theorem cf_X0_admitGuard : CF yX0_admitGuard wsX0_admitGuard rm_X0_admitGuard cX0_admitGuard 1 none 0 0 0 RX0 := ⟨⟨_, rfl⟩, rfl, rfl, rfl, by decide, by decide, by decide +kernel⟩
set_option maxHeartbeats 4000000 in
set_option maxRecDepth 100000 in
theorem m_X0_admitGuard {l : Launch} (hfl : l.stackTraces = false) {D : va_G} {cyI cyZ cyJ : ClassId} {sc : SC} {h : Nat → Nat} {b : S2} {rb : S2} (hf : X0_admitGuard b = some rb) : Ct (ev_s, sc) l yX0_admitGuard wsX0_admitGuard rm_X0_admitGuard D (ty3 cyI cyZ cyJ) [.ref (h 0)] (wB cyI h b) (fun o => o = .inr (none, wB cyI h rb)) 0 0 := by
  refine ct_of (cc := cX0_admitGuard) (nL := 1) (own := RX0) (ret := none) hfl (by decide) rfl rfl (Nat.le_of_ble_eq_true rfl) (fun p e s m args below meth c A C hr hnm => ?_)
  refine g_setQ (fun Q hQ => ?_)
  have kw0 := Cx.w C (.fieldLink RX0 46 "SleepBorder$Border" "guardCount" "I") (by decide +kernel)
  have iX0 : ∀ w ∈ u_ws RX0 TX0 15, w ∈ wsX0_admitGuard := by decide +kernel
  have kw2 := Cx.w C (.fieldLink RX0 49 "SleepBorder$Border" "alertness" "[I") (by decide +kernel)
  have kw3 := Cx.w C (.fieldLink RX0 52 "SleepBorder$Border" "searched" "[I") (by decide +kernel)
  have kw4 := Cx.w C (.fieldLink RX0 55 "SleepBorder$Border" "searchLeft" "[I") (by decide +kernel)
  unfold X0_admitGuard at hf
  refine g_lve (lv' := [(0, .ref (h 0))]) rfl ?_
  refine g_aload_n C dX0_admitGuard_0 1 rfl 0 rfl ?_
  refine g_get C iX0 0 rfl rfl 11 (by decide) kw0 rfl rfl dX0_admitGuard_1 4 rfl ?_
  refine g_bipush C dX0_admitGuard_4 6 rfl bp_8 ?_
  refine g_icmp_lt C dX0_admitGuard_6 10 9 (by decide) rfl (fun c1 => ?_) (fun c1 => ?_)
  · have hf := ifp c1 hf
    refine g_aload_n C dX0_admitGuard_10 11 rfl 0 rfl ?_
    refine g_get C iX0 0 rfl rfl 12 (by decide) kw2 rfl rfl dX0_admitGuard_11 14 rfl ?_
    refine g_aload_n C dX0_admitGuard_14 15 rfl 0 rfl ?_
    refine g_get C iX0 0 rfl rfl 11 (by decide) kw0 rfl rfl dX0_admitGuard_15 18 rfl ?_
    refine g_bipush C dX0_admitGuard_18 20 rfl bp_9 ?_
    obtain ⟨b_3, e2, hf⟩ := bd1_s hf
    refine g_iast C 8 0 rfl rfl (stA_in e2) (st_0 (cyI := cyI) (cyZ := cyZ) (cyJ := cyJ) e2) dX0_admitGuard_20 21 rfl ?_
    refine g_aload_n C dX0_admitGuard_21 22 rfl 0 rfl ?_
    refine g_get C iX0 0 rfl rfl 13 (by decide) kw3 rfl rfl dX0_admitGuard_22 25 rfl ?_
    refine g_aload_n C dX0_admitGuard_25 26 rfl 0 rfl ?_
    refine g_get C iX0 0 rfl rfl 11 (by decide) kw0 rfl rfl dX0_admitGuard_26 29 rfl ?_
    refine g_iconst C dX0_admitGuard_29 30 rfl ic_m1 ?_
    obtain ⟨b_5, e4, hf⟩ := bd1_s hf
    refine g_iast C 9 0 rfl rfl (stA_in e4) (st_1 (cyI := cyI) (cyZ := cyZ) (cyJ := cyJ) e4) dX0_admitGuard_30 31 rfl ?_
    refine g_aload_n C dX0_admitGuard_31 32 rfl 0 rfl ?_
    refine g_get C iX0 0 rfl rfl 14 (by decide) kw4 rfl rfl dX0_admitGuard_32 35 rfl ?_
    refine g_aload_n C dX0_admitGuard_35 36 rfl 0 rfl ?_
    refine g_get C iX0 0 rfl rfl 11 (by decide) kw0 rfl rfl dX0_admitGuard_36 39 rfl ?_
    refine g_iconst C dX0_admitGuard_39 40 rfl ic_0 ?_
    obtain ⟨b_7, e6, hf⟩ := bd1_s hf
    refine g_iast C 10 0 rfl rfl (stA_in e6) (st_2 (cyI := cyI) (cyZ := cyZ) (cyJ := cyJ) e6) dX0_admitGuard_40 41 rfl ?_
    refine g_aload_n C dX0_admitGuard_41 42 rfl 0 rfl ?_
    refine g_dup C dX0_admitGuard_42 43 rfl rfl ?_
    refine g_get C iX0 0 rfl rfl 11 (by decide) kw0 rfl rfl dX0_admitGuard_43 46 rfl ?_
    refine g_iconst C dX0_admitGuard_46 47 rfl ic_1 ?_
    refine g_iadd C dX0_admitGuard_47 48 rfl ?_
    obtain ⟨b_9, e8, hf⟩ := bd1_s hf
    refine g_put C iX0 tyX0 tyX0_ok nmX0 0 rfl rfl 11 (by decide) kw0 rfl rfl rfl (Nat.le_of_ble_eq_true rfl) (st_3 (cyI := cyI) (cyZ := cyZ) (cyJ := cyJ) e8) dX0_admitGuard_48 51 rfl ?_
    refine g_Q hQ ?_
    exact g_vret C hr (by cases hf; rfl) (Nat.le_of_ble_eq_true rfl) (Nat.le_of_ble_eq_true rfl) dX0_admitGuard_51
  · have hf := ifn c1 hf
    refine g_Q hQ ?_
    exact g_vret C hr (by cases hf; rfl) (Nat.le_of_ble_eq_true rfl) (Nat.le_of_ble_eq_true rfl) dX0_admitGuard_9
abbrev rm_X0_admitTraveller : Room := { frames := 0, cells := 0, slots := 0, locals := 0 }
theorem cf_X0_admitTraveller : CF yX0_admitTraveller wsX0_admitTraveller rm_X0_admitTraveller cX0_admitTraveller 5 none 4 0 0 RX0 := ⟨⟨_, rfl⟩, rfl, rfl, rfl, by decide, by decide, by decide +kernel⟩
set_option maxHeartbeats 4000000 in
set_option maxRecDepth 100000 in
theorem m_X0_admitTraveller {l : Launch} (hfl : l.stackTraces = false) {D : va_G} {cyI cyZ cyJ : ClassId} {sc : SC} {h : Nat → Nat} {b : S2} {a0 : Int32} {a1 : Int32} {a2 : Int32} {a3 : Int32} {rb : S2} (hf : X0_admitTraveller b a0 a1 a2 a3 = some rb) : Ct (ev_s, sc) l yX0_admitTraveller wsX0_admitTraveller rm_X0_admitTraveller D (ty3 cyI cyZ cyJ) [.ref (h 0), .int a0, .int a1, .int a2, .int a3] (wB cyI h b) (fun o => o = .inr (none, wB cyI h rb)) 0 0 := by
  refine ct_of (cc := cX0_admitTraveller) (nL := 5) (own := RX0) (ret := none) hfl (by decide) rfl rfl (Nat.le_of_ble_eq_true rfl) (fun p e s m args below meth c A C hr hnm => ?_)
  refine g_setQ (fun Q hQ => ?_)
  have kw0 := Cx.w C (.fieldLink RX0 21 "SleepBorder$Border" "travellerCount" "I") (by decide +kernel)
  have iX0 : ∀ w ∈ u_ws RX0 TX0 15, w ∈ wsX0_admitTraveller := by decide +kernel
  have kw2 := Cx.w C (.fieldLink RX0 24 "SleepBorder$Border" "dreams" "[I") (by decide +kernel)
  have kw3 := Cx.w C (.fieldLink RX0 28 "SleepBorder$Border" "declared" "[I") (by decide +kernel)
  have kw4 := Cx.w C (.fieldLink RX0 31 "SleepBorder$Border" "snore" "[I") (by decide +kernel)
  have kw5 := Cx.w C (.fieldLink RX0 34 "SleepBorder$Border" "lullaby" "[I") (by decide +kernel)
  have kw6 := Cx.w C (.fieldLink RX0 37 "SleepBorder$Border" "state" "[I") (by decide +kernel)
  unfold X0_admitTraveller at hf
  refine g_lve (lv' := [(0, .ref (h 0)), (1, .int a0), (2, .int a1), (3, .int a2), (4, .int a3)]) rfl ?_
  refine g_aload_n C dX0_admitTraveller_0 1 rfl 0 rfl ?_
  refine g_get C iX0 0 rfl rfl 3 (by decide) kw0 rfl rfl dX0_admitTraveller_1 4 rfl ?_
  refine g_bipush C dX0_admitTraveller_4 6 rfl bp_24 ?_
  refine g_icmp_lt C dX0_admitTraveller_6 10 9 (by decide) rfl (fun c1 => ?_) (fun c1 => ?_)
  · have hf := ifp c1 hf
    refine g_aload_n C dX0_admitTraveller_10 11 rfl 0 rfl ?_
    refine g_get C iX0 0 rfl rfl 4 (by decide) kw2 rfl rfl dX0_admitTraveller_11 14 rfl ?_
    refine g_aload_n C dX0_admitTraveller_14 15 rfl 0 rfl ?_
    refine g_get C iX0 0 rfl rfl 3 (by decide) kw0 rfl rfl dX0_admitTraveller_15 18 rfl ?_
    refine g_iload_n C dX0_admitTraveller_18 19 rfl 1 rfl ?_
    obtain ⟨b_3, e2, hf⟩ := bd1_s hf
    refine g_iast C 1 0 rfl rfl (stA_in e2) (st_4 (cyI := cyI) (cyZ := cyZ) (cyJ := cyJ) e2) dX0_admitTraveller_19 20 rfl ?_
    refine g_aload_n C dX0_admitTraveller_20 21 rfl 0 rfl ?_
    refine g_get C iX0 0 rfl rfl 5 (by decide) kw3 rfl rfl dX0_admitTraveller_21 24 rfl ?_
    refine g_aload_n C dX0_admitTraveller_24 25 rfl 0 rfl ?_
    refine g_get C iX0 0 rfl rfl 3 (by decide) kw0 rfl rfl dX0_admitTraveller_25 28 rfl ?_
    refine g_iload_n C dX0_admitTraveller_28 29 rfl 2 rfl ?_
    obtain ⟨b_5, e4, hf⟩ := bd1_s hf
    refine g_iast C 2 0 rfl rfl (stA_in e4) (st_5 (cyI := cyI) (cyZ := cyZ) (cyJ := cyJ) e4) dX0_admitTraveller_29 30 rfl ?_
    refine g_aload_n C dX0_admitTraveller_30 31 rfl 0 rfl ?_
    refine g_get C iX0 0 rfl rfl 6 (by decide) kw4 rfl rfl dX0_admitTraveller_31 34 rfl ?_
    refine g_aload_n C dX0_admitTraveller_34 35 rfl 0 rfl ?_
    refine g_get C iX0 0 rfl rfl 3 (by decide) kw0 rfl rfl dX0_admitTraveller_35 38 rfl ?_
    refine g_iload_n C dX0_admitTraveller_38 39 rfl 3 rfl ?_
    obtain ⟨b_7, e6, hf⟩ := bd1_s hf
    refine g_iast C 3 0 rfl rfl (stA_in e6) (st_6 (cyI := cyI) (cyZ := cyZ) (cyJ := cyJ) e6) dX0_admitTraveller_39 40 rfl ?_
    refine g_aload_n C dX0_admitTraveller_40 41 rfl 0 rfl ?_
    refine g_get C iX0 0 rfl rfl 7 (by decide) kw5 rfl rfl dX0_admitTraveller_41 44 rfl ?_
    refine g_aload_n C dX0_admitTraveller_44 45 rfl 0 rfl ?_
    refine g_get C iX0 0 rfl rfl 3 (by decide) kw0 rfl rfl dX0_admitTraveller_45 48 rfl ?_
    refine g_iload C dX0_admitTraveller_48 50 rfl 4 rfl ?_
    obtain ⟨b_9, e8, hf⟩ := bd1_s hf
    refine g_iast C 4 0 rfl rfl (stA_in e8) (st_7 (cyI := cyI) (cyZ := cyZ) (cyJ := cyJ) e8) dX0_admitTraveller_50 51 rfl ?_
    refine g_aload_n C dX0_admitTraveller_51 52 rfl 0 rfl ?_
    refine g_get C iX0 0 rfl rfl 8 (by decide) kw6 rfl rfl dX0_admitTraveller_52 55 rfl ?_
    refine g_aload_n C dX0_admitTraveller_55 56 rfl 0 rfl ?_
    refine g_get C iX0 0 rfl rfl 3 (by decide) kw0 rfl rfl dX0_admitTraveller_56 59 rfl ?_
    refine g_iconst C dX0_admitTraveller_59 60 rfl ic_0 ?_
    obtain ⟨b_11, e10, hf⟩ := bd1_s hf
    refine g_iast C 5 0 rfl rfl (stA_in e10) (st_8 (cyI := cyI) (cyZ := cyZ) (cyJ := cyJ) e10) dX0_admitTraveller_60 61 rfl ?_
    refine g_aload_n C dX0_admitTraveller_61 62 rfl 0 rfl ?_
    refine g_dup C dX0_admitTraveller_62 63 rfl rfl ?_
    refine g_get C iX0 0 rfl rfl 3 (by decide) kw0 rfl rfl dX0_admitTraveller_63 66 rfl ?_
    refine g_iconst C dX0_admitTraveller_66 67 rfl ic_1 ?_
    refine g_iadd C dX0_admitTraveller_67 68 rfl ?_
    obtain ⟨b_13, e12, hf⟩ := bd1_s hf
    refine g_put C iX0 tyX0 tyX0_ok nmX0 0 rfl rfl 3 (by decide) kw0 rfl rfl rfl (Nat.le_of_ble_eq_true rfl) (st_9 (cyI := cyI) (cyZ := cyZ) (cyJ := cyJ) e12) dX0_admitTraveller_68 71 rfl ?_
    refine g_Q hQ ?_
    exact g_vret C hr (by cases hf; rfl) (Nat.le_of_ble_eq_true rfl) (Nat.le_of_ble_eq_true rfl) dX0_admitTraveller_71
  · have hf := ifn c1 hf
    refine g_Q hQ ?_
    exact g_vret C hr (by cases hf; rfl) (Nat.le_of_ble_eq_true rfl) (Nat.le_of_ble_eq_true rfl) dX0_admitTraveller_9
abbrev rm_X0_isTraveller : Room := { frames := 0, cells := 0, slots := 0, locals := 0 }
theorem cf_X0_isTraveller : CF yX0_isTraveller wsX0_isTraveller rm_X0_isTraveller cX0_isTraveller 2 (some .boolean) 1 0 0 RX0 := ⟨⟨_, rfl⟩, rfl, rfl, rfl, by decide, by decide, by decide +kernel⟩
set_option maxHeartbeats 4000000 in
set_option maxRecDepth 100000 in
theorem m_X0_isTraveller {l : Launch} (hfl : l.stackTraces = false) {D : va_G} {cyI cyZ cyJ : ClassId} {sc : SC} {h : Nat → Nat} {b : S2} {a0 : Int32} {rx : Int32} (hf : X0_isTraveller b a0 = some rx) : Ct (ev_s, sc) l yX0_isTraveller wsX0_isTraveller rm_X0_isTraveller D (ty3 cyI cyZ cyJ) [.ref (h 0), .int a0] (wB cyI h b) (fun o => o = .inr (some (.int rx), wB cyI h b)) 0 0 := by
  refine ct_of (cc := cX0_isTraveller) (nL := 2) (own := RX0) (ret := (some .boolean)) hfl (by decide) rfl rfl (Nat.le_of_ble_eq_true rfl) (fun p e s m args below meth c A C hr hnm => ?_)
  refine g_setQ (fun Q hQ => ?_)
  have kw0 := Cx.w C (.fieldLink RX0 21 "SleepBorder$Border" "travellerCount" "I") (by decide +kernel)
  have iX0 : ∀ w ∈ u_ws RX0 TX0 15, w ∈ wsX0_isTraveller := by decide +kernel
  unfold X0_isTraveller at hf
  refine g_lve (lv' := [(0, .ref (h 0)), (1, .int a0)]) rfl ?_
  refine g_iload_n C dX0_isTraveller_0 1 rfl 1 rfl ?_
  refine g_if_lt C dX0_isTraveller_1 16 4 (by decide) rfl (fun c1 => ?_) (fun c1 => ?_)
  · have hf := ifp c1 hf
    refine g_iconst C dX0_isTraveller_16 17 rfl ic_0 ?_
    refine g_Q hQ ?_
    exact g_zret C hr (Or.inl rfl) (by cases hf; rfl) (Nat.le_of_ble_eq_true rfl) (Nat.le_of_ble_eq_true rfl) dX0_isTraveller_17
  · have hf := ifn c1 hf
    refine g_iload_n C dX0_isTraveller_4 5 rfl 1 rfl ?_
    refine g_aload_n C dX0_isTraveller_5 6 rfl 0 rfl ?_
    refine g_get C iX0 0 rfl rfl 3 (by decide) kw0 rfl rfl dX0_isTraveller_6 9 rfl ?_
    refine g_icmp_ge C dX0_isTraveller_9 16 12 (by decide) rfl (fun c2 => ?_) (fun c2 => ?_)
    · have hf := ifp c2 hf
      refine g_iconst C dX0_isTraveller_16 17 rfl ic_0 ?_
      refine g_Q hQ ?_
      exact g_zret C hr (Or.inl rfl) (by cases hf; rfl) (Nat.le_of_ble_eq_true rfl) (Nat.le_of_ble_eq_true rfl) dX0_isTraveller_17
    · have hf := ifn c2 hf
      refine g_iconst C dX0_isTraveller_12 13 rfl ic_1 ?_
      refine g_goto C dX0_isTraveller_13 17 (by decide) ?_
      refine g_Q hQ ?_
      exact g_zret C hr (Or.inr rfl) (by cases hf; rfl) (Nat.le_of_ble_eq_true rfl) (Nat.le_of_ble_eq_true rfl) dX0_isTraveller_17
abbrev rm_X0_isGuard : Room := { frames := 0, cells := 0, slots := 0, locals := 0 }
theorem cf_X0_isGuard : CF yX0_isGuard wsX0_isGuard rm_X0_isGuard cX0_isGuard 2 (some .boolean) 1 0 0 RX0 := ⟨⟨_, rfl⟩, rfl, rfl, rfl, by decide, by decide, by decide +kernel⟩
set_option maxHeartbeats 4000000 in
set_option maxRecDepth 100000 in
theorem m_X0_isGuard {l : Launch} (hfl : l.stackTraces = false) {D : va_G} {cyI cyZ cyJ : ClassId} {sc : SC} {h : Nat → Nat} {b : S2} {a0 : Int32} {rx : Int32} (hf : X0_isGuard b a0 = some rx) : Ct (ev_s, sc) l yX0_isGuard wsX0_isGuard rm_X0_isGuard D (ty3 cyI cyZ cyJ) [.ref (h 0), .int a0] (wB cyI h b) (fun o => o = .inr (some (.int rx), wB cyI h b)) 0 0 := by
  refine ct_of (cc := cX0_isGuard) (nL := 2) (own := RX0) (ret := (some .boolean)) hfl (by decide) rfl rfl (Nat.le_of_ble_eq_true rfl) (fun p e s m args below meth c A C hr hnm => ?_)
  refine g_setQ (fun Q hQ => ?_)
  have kw0 := Cx.w C (.fieldLink RX0 46 "SleepBorder$Border" "guardCount" "I") (by decide +kernel)
  have iX0 : ∀ w ∈ u_ws RX0 TX0 15, w ∈ wsX0_isGuard := by decide +kernel
  unfold X0_isGuard at hf
  refine g_lve (lv' := [(0, .ref (h 0)), (1, .int a0)]) rfl ?_
  refine g_iload_n C dX0_isGuard_0 1 rfl 1 rfl ?_
  refine g_if_lt C dX0_isGuard_1 16 4 (by decide) rfl (fun c1 => ?_) (fun c1 => ?_)
  · have hf := ifp c1 hf
    refine g_iconst C dX0_isGuard_16 17 rfl ic_0 ?_
    refine g_Q hQ ?_
    exact g_zret C hr (Or.inl rfl) (by cases hf; rfl) (Nat.le_of_ble_eq_true rfl) (Nat.le_of_ble_eq_true rfl) dX0_isGuard_17
  · have hf := ifn c1 hf
    refine g_iload_n C dX0_isGuard_4 5 rfl 1 rfl ?_
    refine g_aload_n C dX0_isGuard_5 6 rfl 0 rfl ?_
    refine g_get C iX0 0 rfl rfl 11 (by decide) kw0 rfl rfl dX0_isGuard_6 9 rfl ?_
    refine g_icmp_ge C dX0_isGuard_9 16 12 (by decide) rfl (fun c2 => ?_) (fun c2 => ?_)
    · have hf := ifp c2 hf
      refine g_iconst C dX0_isGuard_16 17 rfl ic_0 ?_
      refine g_Q hQ ?_
      exact g_zret C hr (Or.inl rfl) (by cases hf; rfl) (Nat.le_of_ble_eq_true rfl) (Nat.le_of_ble_eq_true rfl) dX0_isGuard_17
    · have hf := ifn c2 hf
      refine g_iconst C dX0_isGuard_12 13 rfl ic_1 ?_
      refine g_goto C dX0_isGuard_13 17 (by decide) ?_
      refine g_Q hQ ?_
      exact g_zret C hr (Or.inr rfl) (by cases hf; rfl) (Nat.le_of_ble_eq_true rfl) (Nat.le_of_ble_eq_true rfl) dX0_isGuard_17
abbrev rm_X0_countIn : Room := { frames := 0, cells := 0, slots := 0, locals := 0 }
theorem cf_X0_countIn : CF yX0_countIn wsX0_countIn rm_X0_countIn cX0_countIn 4 (some .int) 1 0 0 RX0 := ⟨⟨_, rfl⟩, rfl, rfl, rfl, by decide, by decide, by decide +kernel⟩
set_option maxHeartbeats 4000000 in
set_option maxRecDepth 100000 in
theorem m_X0_countIn {l : Launch} (hfl : l.stackTraces = false) {D : va_G} {cyI cyZ cyJ : ClassId} {sc : SC} {h : Nat → Nat} {b : S2} {a0 : Int32} {rx : Int32} (hf : X0_countIn b a0 = some rx) : Ct (ev_s, sc) l yX0_countIn wsX0_countIn rm_X0_countIn D (ty3 cyI cyZ cyJ) [.ref (h 0), .int a0] (wB cyI h b) (fun o => o = .inr (some (.int rx), wB cyI h b)) 0 0 := by
  refine ct_of (cc := cX0_countIn) (nL := 4) (own := RX0) (ret := (some .int)) hfl (by decide) rfl rfl (Nat.le_of_ble_eq_true rfl) (fun p e s m args below meth c A C hr hnm => ?_)
  refine g_setQ (fun Q hQ => ?_)
  have kw0 := Cx.w C (.fieldLink RX0 21 "SleepBorder$Border" "travellerCount" "I") (by decide +kernel)
  have iX0 : ∀ w ∈ u_ws RX0 TX0 15, w ∈ wsX0_countIn := by decide +kernel
  have kw2 := Cx.w C (.fieldLink RX0 37 "SleepBorder$Border" "state" "[I") (by decide +kernel)
  have L4 : ∀ (l1 : Int32) (n : Nat) (l2 : Int32) (l3 : Int32), X0_countIn_L4 l1 b n l2 l3 = some rx → Gq p l e rm_X0_countIn s m args below meth c D A 4 Q (wB cyI h b) 0 0 4 [(0, .ref (h 0)), (1, .int l1), (2, .int l2), (3, .int l3)] [] := by
    intro l1 n
    induction n with
    | zero => intro l2 l3 hf; simp [X0_countIn_L4] at hf
    | succ n ih =>
      intro l2 l3 hf
      rw [X0_countIn_L4] at hf
      refine g_iload_n C dX0_countIn_4 5 rfl 3 rfl ?_
      refine g_aload_n C dX0_countIn_5 6 rfl 0 rfl ?_
      refine g_get C iX0 0 rfl rfl 3 (by decide) kw0 rfl rfl dX0_countIn_6 9 rfl ?_
      refine g_icmp_ge C dX0_countIn_9 31 12 (by decide) rfl (fun c1 => ?_) (fun c1 => ?_)
      · have hf := ifp c1 hf
        refine g_iload_n C dX0_countIn_31 32 rfl 2 rfl ?_
        refine g_Q hQ ?_
        exact g_iret C hr (by cases hf; rfl) (Nat.le_of_ble_eq_true rfl) (Nat.le_of_ble_eq_true rfl) dX0_countIn_32
      · have hf := ifn c1 hf
        refine g_aload_n C dX0_countIn_12 13 rfl 0 rfl ?_
        refine g_get C iX0 0 rfl rfl 8 (by decide) kw2 rfl rfl dX0_countIn_13 16 rfl ?_
        refine g_iload_n C dX0_countIn_16 17 rfl 3 rfl ?_
        obtain ⟨x3, e2, hf⟩ := bd1_s hf
        refine g_iald C 5 0 rfl rfl e2 dX0_countIn_17 18 rfl ?_
        refine g_iload_n C dX0_countIn_18 19 rfl 1 rfl ?_
        refine g_icmp_ne C dX0_countIn_19 25 22 (by decide) rfl (fun c4 => ?_) (fun c4 => ?_)
        · have hf := ifn c4 hf
          refine g_iinc C dX0_countIn_25 28 rfl 3 rfl (ii_1 _) (by decide) (lv' := [(3, .int (l3 + 1)), (0, .ref (h 0)), (1, .int l1), (2, .int l2)]) rfl ?_
          refine g_goto C dX0_countIn_28 4 (by decide) ?_
          refine g_lv [1, 2, 3, 0] (lv' := [(0, .ref (h 0)), (1, .int l1), (2, .int l2), (3, .int (l3 + 1))]) rfl ?_
          exact ih l2 (l3 + 1) hf
        · have hf := ifp c4 hf
          refine g_iinc C dX0_countIn_22 25 rfl 2 rfl (ii_1 _) (by decide) (lv' := [(2, .int (l2 + 1)), (0, .ref (h 0)), (1, .int l1), (3, .int l3)]) rfl ?_
          refine g_iinc C dX0_countIn_25 28 rfl 3 rfl (ii_1 _) (by decide) (lv' := [(3, .int (l3 + 1)), (2, .int (l2 + 1)), (0, .ref (h 0)), (1, .int l1)]) rfl ?_
          refine g_goto C dX0_countIn_28 4 (by decide) ?_
          refine g_lv [2, 3, 1, 0] (lv' := [(0, .ref (h 0)), (1, .int l1), (2, .int (l2 + 1)), (3, .int (l3 + 1))]) rfl ?_
          exact ih (l2 + 1) (l3 + 1) hf
  unfold X0_countIn at hf
  refine g_lve (lv' := [(0, .ref (h 0)), (1, .int a0)]) rfl ?_
  refine g_iconst C dX0_countIn_0 1 rfl ic_0 ?_
  refine g_istore_n C dX0_countIn_1 2 rfl (by decide) (lv' := [(2, .int 0), (0, .ref (h 0)), (1, .int a0)]) rfl ?_
  refine g_iconst C dX0_countIn_2 3 rfl ic_0 ?_
  refine g_istore_n C dX0_countIn_3 4 rfl (by decide) (lv' := [(3, .int 0), (2, .int 0), (0, .ref (h 0)), (1, .int a0)]) rfl ?_
  refine g_lv [2, 3, 1, 0] (lv' := [(0, .ref (h 0)), (1, .int a0), (2, .int 0), (3, .int 0)]) rfl ?_
  exact L4 a0 200 0 0 hf
abbrev rm_X0_waitingAhead : Room := { frames := 0, cells := 0, slots := 0, locals := 0 }
theorem cf_X0_waitingAhead : CF yX0_waitingAhead wsX0_waitingAhead rm_X0_waitingAhead cX0_waitingAhead 4 (some .int) 1 0 0 RX0 := ⟨⟨_, rfl⟩, rfl, rfl, rfl, by decide, by decide, by decide +kernel⟩
set_option maxHeartbeats 4000000 in
set_option maxRecDepth 100000 in
theorem m_X0_waitingAhead {l : Launch} (hfl : l.stackTraces = false) {D : va_G} {cyI cyZ cyJ : ClassId} {sc : SC} {h : Nat → Nat} {b : S2} {a0 : Int32} {rx : Int32} (hf : X0_waitingAhead b a0 = some rx) : Ct (ev_s, sc) l yX0_waitingAhead wsX0_waitingAhead rm_X0_waitingAhead D (ty3 cyI cyZ cyJ) [.ref (h 0), .int a0] (wB cyI h b) (fun o => o = .inr (some (.int rx), wB cyI h b)) 0 0 := by
  refine ct_of (cc := cX0_waitingAhead) (nL := 4) (own := RX0) (ret := (some .int)) hfl (by decide) rfl rfl (Nat.le_of_ble_eq_true rfl) (fun p e s m args below meth c A C hr hnm => ?_)
  refine g_setQ (fun Q hQ => ?_)
  have kw0 := Cx.w C (.fieldLink RX0 21 "SleepBorder$Border" "travellerCount" "I") (by decide +kernel)
  have iX0 : ∀ w ∈ u_ws RX0 TX0 15, w ∈ wsX0_waitingAhead := by decide +kernel
  have kw2 := Cx.w C (.fieldLink RX0 37 "SleepBorder$Border" "state" "[I") (by decide +kernel)
  have L4 : ∀ (l1 : Int32) (n : Nat) (l2 : Int32) (l3 : Int32), X0_waitingAhead_L4 l1 b n l2 l3 = some rx → Gq p l e rm_X0_waitingAhead s m args below meth c D A 4 Q (wB cyI h b) 0 0 4 [(0, .ref (h 0)), (1, .int l1), (2, .int l2), (3, .int l3)] [] := by
    intro l1 n
    induction n with
    | zero => intro l2 l3 hf; simp [X0_waitingAhead_L4] at hf
    | succ n ih =>
      intro l2 l3 hf
      rw [X0_waitingAhead_L4] at hf
      refine g_iload_n C dX0_waitingAhead_4 5 rfl 3 rfl ?_
      refine g_aload_n C dX0_waitingAhead_5 6 rfl 0 rfl ?_
      refine g_get C iX0 0 rfl rfl 3 (by decide) kw0 rfl rfl dX0_waitingAhead_6 9 rfl ?_
      refine g_icmp_ge C dX0_waitingAhead_9 35 12 (by decide) rfl (fun c1 => ?_) (fun c1 => ?_)
      · have hf := ifp c1 hf
        refine g_iload_n C dX0_waitingAhead_35 36 rfl 2 rfl ?_
        refine g_Q hQ ?_
        exact g_iret C hr (by cases hf; rfl) (Nat.le_of_ble_eq_true rfl) (Nat.le_of_ble_eq_true rfl) dX0_waitingAhead_36
      · have hf := ifn c1 hf
        refine g_iload_n C dX0_waitingAhead_12 13 rfl 3 rfl ?_
        refine g_iload_n C dX0_waitingAhead_13 14 rfl 1 rfl ?_
        refine g_icmp_ge C dX0_waitingAhead_14 35 17 (by decide) rfl (fun c2 => ?_) (fun c2 => ?_)
        · have hf := ifp c2 hf
          refine g_iload_n C dX0_waitingAhead_35 36 rfl 2 rfl ?_
          refine g_Q hQ ?_
          exact g_iret C hr (by cases hf; rfl) (Nat.le_of_ble_eq_true rfl) (Nat.le_of_ble_eq_true rfl) dX0_waitingAhead_36
        · have hf := ifn c2 hf
          refine g_aload_n C dX0_waitingAhead_17 18 rfl 0 rfl ?_
          refine g_get C iX0 0 rfl rfl 8 (by decide) kw2 rfl rfl dX0_waitingAhead_18 21 rfl ?_
          refine g_iload_n C dX0_waitingAhead_21 22 rfl 3 rfl ?_
          obtain ⟨x4, e3, hf⟩ := bd1_s hf
          refine g_iald C 5 0 rfl rfl e3 dX0_waitingAhead_22 23 rfl ?_
          refine g_if_ne C dX0_waitingAhead_23 29 26 (by decide) rfl (fun c5 => ?_) (fun c5 => ?_)
          · have hf := ifn c5 hf
            refine g_iinc C dX0_waitingAhead_29 32 rfl 3 rfl (ii_1 _) (by decide) (lv' := [(3, .int (l3 + 1)), (0, .ref (h 0)), (1, .int l1), (2, .int l2)]) rfl ?_
            refine g_goto C dX0_waitingAhead_32 4 (by decide) ?_
            refine g_lv [1, 2, 3, 0] (lv' := [(0, .ref (h 0)), (1, .int l1), (2, .int l2), (3, .int (l3 + 1))]) rfl ?_
            exact ih l2 (l3 + 1) hf
          · have hf := ifp c5 hf
            refine g_iinc C dX0_waitingAhead_26 29 rfl 2 rfl (ii_1 _) (by decide) (lv' := [(2, .int (l2 + 1)), (0, .ref (h 0)), (1, .int l1), (3, .int l3)]) rfl ?_
            refine g_iinc C dX0_waitingAhead_29 32 rfl 3 rfl (ii_1 _) (by decide) (lv' := [(3, .int (l3 + 1)), (2, .int (l2 + 1)), (0, .ref (h 0)), (1, .int l1)]) rfl ?_
            refine g_goto C dX0_waitingAhead_32 4 (by decide) ?_
            refine g_lv [2, 3, 1, 0] (lv' := [(0, .ref (h 0)), (1, .int l1), (2, .int (l2 + 1)), (3, .int (l3 + 1))]) rfl ?_
            exact ih (l2 + 1) (l3 + 1) hf
  unfold X0_waitingAhead at hf
  refine g_lve (lv' := [(0, .ref (h 0)), (1, .int a0)]) rfl ?_
  refine g_iconst C dX0_waitingAhead_0 1 rfl ic_0 ?_
  refine g_istore_n C dX0_waitingAhead_1 2 rfl (by decide) (lv' := [(2, .int 0), (0, .ref (h 0)), (1, .int a0)]) rfl ?_
  refine g_iconst C dX0_waitingAhead_2 3 rfl ic_0 ?_
  refine g_istore_n C dX0_waitingAhead_3 4 rfl (by decide) (lv' := [(3, .int 0), (2, .int 0), (0, .ref (h 0)), (1, .int a0)]) rfl ?_
  refine g_lv [2, 3, 1, 0] (lv' := [(0, .ref (h 0)), (1, .int a0), (2, .int 0), (3, .int 0)]) rfl ?_
  exact L4 a0 200 0 0 hf
abbrev rm_X0_firstWaiting : Room := { frames := 0, cells := 0, slots := 0, locals := 0 }
theorem cf_X0_firstWaiting : CF yX0_firstWaiting wsX0_firstWaiting rm_X0_firstWaiting cX0_firstWaiting 2 (some .int) 0 0 0 RX0 := ⟨⟨_, rfl⟩, rfl, rfl, rfl, by decide, by decide, by decide +kernel⟩
set_option maxHeartbeats 4000000 in
set_option maxRecDepth 100000 in
theorem m_X0_firstWaiting {l : Launch} (hfl : l.stackTraces = false) {D : va_G} {cyI cyZ cyJ : ClassId} {sc : SC} {h : Nat → Nat} {b : S2} {rx : Int32} (hf : X0_firstWaiting b = some rx) : Ct (ev_s, sc) l yX0_firstWaiting wsX0_firstWaiting rm_X0_firstWaiting D (ty3 cyI cyZ cyJ) [.ref (h 0)] (wB cyI h b) (fun o => o = .inr (some (.int rx), wB cyI h b)) 0 0 := by
  refine ct_of (cc := cX0_firstWaiting) (nL := 2) (own := RX0) (ret := (some .int)) hfl (by decide) rfl rfl (Nat.le_of_ble_eq_true rfl) (fun p e s m args below meth c A C hr hnm => ?_)
  refine g_setQ (fun Q hQ => ?_)
  have kw0 := Cx.w C (.fieldLink RX0 21 "SleepBorder$Border" "travellerCount" "I") (by decide +kernel)
  have iX0 : ∀ w ∈ u_ws RX0 TX0 15, w ∈ wsX0_firstWaiting := by decide +kernel
  have kw2 := Cx.w C (.fieldLink RX0 37 "SleepBorder$Border" "state" "[I") (by decide +kernel)
  have L2 : ∀ (n : Nat) (l1 : Int32), X0_firstWaiting_L2 b n l1 = some rx → Gq p l e rm_X0_firstWaiting s m args below meth c D A 2 Q (wB cyI h b) 0 0 2 [(0, .ref (h 0)), (1, .int l1)] [] := by
    intro n
    induction n with
    | zero => intro l1 hf; simp [X0_firstWaiting_L2] at hf
    | succ n ih =>
      intro l1 hf
      rw [X0_firstWaiting_L2] at hf
      refine g_iload_n C dX0_firstWaiting_2 3 rfl 1 rfl ?_
      refine g_aload_n C dX0_firstWaiting_3 4 rfl 0 rfl ?_
      refine g_get C iX0 0 rfl rfl 3 (by decide) kw0 rfl rfl dX0_firstWaiting_4 7 rfl ?_
      refine g_icmp_ge C dX0_firstWaiting_7 27 10 (by decide) rfl (fun c1 => ?_) (fun c1 => ?_)
      · have hf := ifp c1 hf
        refine g_iconst C dX0_firstWaiting_27 28 rfl ic_m1 ?_
        refine g_Q hQ ?_
        exact g_iret C hr (by cases hf; rfl) (Nat.le_of_ble_eq_true rfl) (Nat.le_of_ble_eq_true rfl) dX0_firstWaiting_28
      · have hf := ifn c1 hf
        refine g_aload_n C dX0_firstWaiting_10 11 rfl 0 rfl ?_
        refine g_get C iX0 0 rfl rfl 8 (by decide) kw2 rfl rfl dX0_firstWaiting_11 14 rfl ?_
        refine g_iload_n C dX0_firstWaiting_14 15 rfl 1 rfl ?_
        obtain ⟨x3, e2, hf⟩ := bd1_s hf
        refine g_iald C 5 0 rfl rfl e2 dX0_firstWaiting_15 16 rfl ?_
        refine g_if_ne C dX0_firstWaiting_16 21 19 (by decide) rfl (fun c4 => ?_) (fun c4 => ?_)
        · have hf := ifn c4 hf
          refine g_iinc C dX0_firstWaiting_21 24 rfl 1 rfl (ii_1 _) (by decide) (lv' := [(1, .int (l1 + 1)), (0, .ref (h 0))]) rfl ?_
          refine g_goto C dX0_firstWaiting_24 2 (by decide) ?_
          refine g_lv [1, 0] (lv' := [(0, .ref (h 0)), (1, .int (l1 + 1))]) rfl ?_
          exact ih (l1 + 1) hf
        · have hf := ifp c4 hf
          refine g_iload_n C dX0_firstWaiting_19 20 rfl 1 rfl ?_
          refine g_Q hQ ?_
          exact g_iret C hr (by cases hf; rfl) (Nat.le_of_ble_eq_true rfl) (Nat.le_of_ble_eq_true rfl) dX0_firstWaiting_20
  unfold X0_firstWaiting at hf
  refine g_lve (lv' := [(0, .ref (h 0))]) rfl ?_
  refine g_iconst C dX0_firstWaiting_0 1 rfl ic_0 ?_
  refine g_istore_n C dX0_firstWaiting_1 2 rfl (by decide) (lv' := [(1, .int 0), (0, .ref (h 0))]) rfl ?_
  refine g_lv [1, 0] (lv' := [(0, .ref (h 0)), (1, .int 0)]) rfl ?_
  exact L2 200 0 hf
abbrev rm_X0_addedSnores : Room := { frames := 0, cells := 0, slots := 0, locals := 0 }
theorem cf_X0_addedSnores : CF yX0_addedSnores wsX0_addedSnores rm_X0_addedSnores cX0_addedSnores 3 (some .int) 0 0 0 RX0 := ⟨⟨_, rfl⟩, rfl, rfl, rfl, by decide, by decide, by decide +kernel⟩
set_option maxHeartbeats 4000000 in
set_option maxRecDepth 100000 in
theorem m_X0_addedSnores {l : Launch} (hfl : l.stackTraces = false) {D : va_G} {cyI cyZ cyJ : ClassId} {sc : SC} {h : Nat → Nat} {b : S2} {rx : Int32} (hf : X0_addedSnores b = some rx) : Ct (ev_s, sc) l yX0_addedSnores wsX0_addedSnores rm_X0_addedSnores D (ty3 cyI cyZ cyJ) [.ref (h 0)] (wB cyI h b) (fun o => o = .inr (some (.int rx), wB cyI h b)) 0 0 := by
  refine ct_of (cc := cX0_addedSnores) (nL := 3) (own := RX0) (ret := (some .int)) hfl (by decide) rfl rfl (Nat.le_of_ble_eq_true rfl) (fun p e s m args below meth c A C hr hnm => ?_)
  refine g_setQ (fun Q hQ => ?_)
  have kw0 := Cx.w C (.fieldLink RX0 21 "SleepBorder$Border" "travellerCount" "I") (by decide +kernel)
  have iX0 : ∀ w ∈ u_ws RX0 TX0 15, w ∈ wsX0_addedSnores := by decide +kernel
  have kw2 := Cx.w C (.fieldLink RX0 37 "SleepBorder$Border" "state" "[I") (by decide +kernel)
  have kw3 := Cx.w C (.fieldLink RX0 31 "SleepBorder$Border" "snore" "[I") (by decide +kernel)
  have L4 : ∀ (n : Nat) (l1 : Int32) (l2 : Int32), X0_addedSnores_L4 b n l1 l2 = some rx → Gq p l e rm_X0_addedSnores s m args below meth c D A 3 Q (wB cyI h b) 0 0 4 [(0, .ref (h 0)), (1, .int l1), (2, .int l2)] [] := by
    intro n
    induction n with
    | zero => intro l1 l2 hf; simp [X0_addedSnores_L4] at hf
    | succ n ih =>
      intro l1 l2 hf
      rw [X0_addedSnores_L4] at hf
      refine g_iload_n C dX0_addedSnores_4 5 rfl 2 rfl ?_
      refine g_aload_n C dX0_addedSnores_5 6 rfl 0 rfl ?_
      refine g_get C iX0 0 rfl rfl 3 (by decide) kw0 rfl rfl dX0_addedSnores_6 9 rfl ?_
      refine g_icmp_ge C dX0_addedSnores_9 37 12 (by decide) rfl (fun c1 => ?_) (fun c1 => ?_)
      · have hf := ifp c1 hf
        refine g_iload_n C dX0_addedSnores_37 38 rfl 1 rfl ?_
        refine g_Q hQ ?_
        exact g_iret C hr (by cases hf; rfl) (Nat.le_of_ble_eq_true rfl) (Nat.le_of_ble_eq_true rfl) dX0_addedSnores_38
      · have hf := ifn c1 hf
        refine g_aload_n C dX0_addedSnores_12 13 rfl 0 rfl ?_
        refine g_get C iX0 0 rfl rfl 8 (by decide) kw2 rfl rfl dX0_addedSnores_13 16 rfl ?_
        refine g_iload_n C dX0_addedSnores_16 17 rfl 2 rfl ?_
        obtain ⟨x3, e2, hf⟩ := bd1_s hf
        refine g_iald C 5 0 rfl rfl e2 dX0_addedSnores_17 18 rfl ?_
        refine g_iconst C dX0_addedSnores_18 19 rfl ic_2 ?_
        refine g_icmp_ne C dX0_addedSnores_19 31 22 (by decide) rfl (fun c4 => ?_) (fun c4 => ?_)
        · have hf := ifn c4 hf
          refine g_iinc C dX0_addedSnores_31 34 rfl 2 rfl (ii_1 _) (by decide) (lv' := [(2, .int (l2 + 1)), (0, .ref (h 0)), (1, .int l1)]) rfl ?_
          refine g_goto C dX0_addedSnores_34 4 (by decide) ?_
          refine g_lv [1, 2, 0] (lv' := [(0, .ref (h 0)), (1, .int l1), (2, .int (l2 + 1))]) rfl ?_
          exact ih l1 (l2 + 1) hf
        · have hf := ifp c4 hf
          refine g_iload_n C dX0_addedSnores_22 23 rfl 1 rfl ?_
          refine g_aload_n C dX0_addedSnores_23 24 rfl 0 rfl ?_
          refine g_get C iX0 0 rfl rfl 6 (by decide) kw3 rfl rfl dX0_addedSnores_24 27 rfl ?_
          refine g_iload_n C dX0_addedSnores_27 28 rfl 2 rfl ?_
          obtain ⟨x6, e5, hf⟩ := bd1_s hf
          refine g_iald C 3 0 rfl rfl e5 dX0_addedSnores_28 29 rfl ?_
          refine g_iadd C dX0_addedSnores_29 30 rfl ?_
          refine g_istore_n C dX0_addedSnores_30 31 rfl (by decide) (lv' := [(1, .int (l1 + x6)), (0, .ref (h 0)), (2, .int l2)]) rfl ?_
          refine g_iinc C dX0_addedSnores_31 34 rfl 2 rfl (ii_1 _) (by decide) (lv' := [(2, .int (l2 + 1)), (1, .int (l1 + x6)), (0, .ref (h 0))]) rfl ?_
          refine g_goto C dX0_addedSnores_34 4 (by decide) ?_
          refine g_lv [2, 1, 0] (lv' := [(0, .ref (h 0)), (1, .int (l1 + x6)), (2, .int (l2 + 1))]) rfl ?_
          exact ih (l1 + x6) (l2 + 1) hf
  unfold X0_addedSnores at hf
  refine g_lve (lv' := [(0, .ref (h 0))]) rfl ?_
  refine g_iconst C dX0_addedSnores_0 1 rfl ic_0 ?_
  refine g_istore_n C dX0_addedSnores_1 2 rfl (by decide) (lv' := [(1, .int 0), (0, .ref (h 0))]) rfl ?_
  refine g_iconst C dX0_addedSnores_2 3 rfl ic_0 ?_
  refine g_istore_n C dX0_addedSnores_3 4 rfl (by decide) (lv' := [(2, .int 0), (1, .int 0), (0, .ref (h 0))]) rfl ?_
  refine g_lv [2, 1, 0] (lv' := [(0, .ref (h 0)), (1, .int 0), (2, .int 0)]) rfl ?_
  exact L4 200 0 0 hf
abbrev rm_X0_hiddenDreams : Room := { frames := 0, cells := 0, slots := 0, locals := 0 }
theorem cf_X0_hiddenDreams : CF yX0_hiddenDreams wsX0_hiddenDreams rm_X0_hiddenDreams cX0_hiddenDreams 3 (some .int) 1 0 0 RX0 := ⟨⟨_, rfl⟩, rfl, rfl, rfl, by decide, by decide, by decide +kernel⟩
set_option maxHeartbeats 4000000 in
set_option maxRecDepth 100000 in
theorem m_X0_hiddenDreams {l : Launch} (hfl : l.stackTraces = false) {D : va_G} {cyI cyZ cyJ : ClassId} {sc : SC} {h : Nat → Nat} {b : S2} {a0 : Int32} {rx : Int32} (hf : X0_hiddenDreams b a0 = some rx) : Ct (ev_s, sc) l yX0_hiddenDreams wsX0_hiddenDreams rm_X0_hiddenDreams D (ty3 cyI cyZ cyJ) [.ref (h 0), .int a0] (wB cyI h b) (fun o => o = .inr (some (.int rx), wB cyI h b)) 0 0 := by
  refine ct_of (cc := cX0_hiddenDreams) (nL := 3) (own := RX0) (ret := (some .int)) hfl (by decide) rfl rfl (Nat.le_of_ble_eq_true rfl) (fun p e s m args below meth c A C hr hnm => ?_)
  refine g_setQ (fun Q hQ => ?_)
  have kw0 := Cx.w C (.fieldLink RX0 24 "SleepBorder$Border" "dreams" "[I") (by decide +kernel)
  have iX0 : ∀ w ∈ u_ws RX0 TX0 15, w ∈ wsX0_hiddenDreams := by decide +kernel
  have kw2 := Cx.w C (.fieldLink RX0 28 "SleepBorder$Border" "declared" "[I") (by decide +kernel)
  unfold X0_hiddenDreams at hf
  refine g_lve (lv' := [(0, .ref (h 0)), (1, .int a0)]) rfl ?_
  refine g_aload_n C dX0_hiddenDreams_0 1 rfl 0 rfl ?_
  refine g_get C iX0 0 rfl rfl 4 (by decide) kw0 rfl rfl dX0_hiddenDreams_1 4 rfl ?_
  refine g_iload_n C dX0_hiddenDreams_4 5 rfl 1 rfl ?_
  obtain ⟨x2, e1, hf⟩ := bd1_s hf
  refine g_iald C 1 0 rfl rfl e1 dX0_hiddenDreams_5 6 rfl ?_
  refine g_aload_n C dX0_hiddenDreams_6 7 rfl 0 rfl ?_
  refine g_get C iX0 0 rfl rfl 5 (by decide) kw2 rfl rfl dX0_hiddenDreams_7 10 rfl ?_
  refine g_iload_n C dX0_hiddenDreams_10 11 rfl 1 rfl ?_
  obtain ⟨x4, e3, hf⟩ := bd1_s hf
  refine g_iald C 2 0 rfl rfl e3 dX0_hiddenDreams_11 12 rfl ?_
  refine g_isub C dX0_hiddenDreams_12 13 rfl ?_
  refine g_istore_n C dX0_hiddenDreams_13 14 rfl (by decide) (lv' := [(2, .int (x2 - x4)), (0, .ref (h 0)), (1, .int a0)]) rfl ?_
  refine g_iload_n C dX0_hiddenDreams_14 15 rfl 0 rfl ?_
  refine g_if_le C dX0_hiddenDreams_15 22 18 (by decide) rfl (fun c5 => ?_) (fun c5 => ?_)
  · have hf := ifp c5 hf
    refine g_iconst C dX0_hiddenDreams_22 23 rfl ic_0 ?_
    refine g_Q hQ ?_
    exact g_iret C hr (by cases hf; rfl) (Nat.le_of_ble_eq_true rfl) (Nat.le_of_ble_eq_true rfl) dX0_hiddenDreams_23
  · have hf := ifn c5 hf
    refine g_iload_n C dX0_hiddenDreams_18 19 rfl 0 rfl ?_
    refine g_goto C dX0_hiddenDreams_19 23 (by decide) ?_
    refine g_Q hQ ?_
    exact g_iret C hr (by cases hf; rfl) (Nat.le_of_ble_eq_true rfl) (Nat.le_of_ble_eq_true rfl) dX0_hiddenDreams_23
abbrev rm_X0_searchMinutes : Room := { frames := 1, cells := 0, slots := 0, locals := 22 }
theorem cf_X0_searchMinutes : CF yX0_searchMinutes wsX0_searchMinutes rm_X0_searchMinutes cX0_searchMinutes 2 (some .int) 1 0 0 RX0 := ⟨⟨_, rfl⟩, rfl, rfl, rfl, by decide, by decide, by decide +kernel⟩
set_option maxHeartbeats 4000000 in
set_option maxRecDepth 100000 in
theorem m_X0_searchMinutes {l : Launch} (hfl : l.stackTraces = false) {D : va_G} {cyI cyZ cyJ : ClassId} {sc : SC} {h : Nat → Nat} {b : S2} {a0 : Int32} {rx : Int32} (hf : X0_searchMinutes b a0 = some rx) : Ct (ev_s, sc) l yX0_searchMinutes wsX0_searchMinutes rm_X0_searchMinutes D (ty3 cyI cyZ cyJ) [.ref (h 0), .int a0] (wB cyI h b) (fun o => o = .inr (some (.int rx), wB cyI h b)) 0 0 := by
  refine ct_of (cc := cX0_searchMinutes) (nL := 2) (own := RX0) (ret := (some .int)) hfl (by decide) rfl rfl (Nat.le_of_ble_eq_true rfl) (fun p e s m args below meth c A C hr hnm => ?_)
  refine g_setQ (fun Q hQ => ?_)
  have kw0 := Cx.w C (.fieldLink RX0 28 "SleepBorder$Border" "declared" "[I") (by decide +kernel)
  have iX0 : ∀ w ∈ u_ws RX0 TX0 15, w ∈ wsX0_searchMinutes := by decide +kernel
  unfold X0_searchMinutes at hf
  refine g_lve (lv' := [(0, .ref (h 0)), (1, .int a0)]) rfl ?_
  refine g_iconst C dX0_searchMinutes_0 1 rfl ic_2 ?_
  refine g_aload_n C dX0_searchMinutes_1 2 rfl 0 rfl ?_
  refine g_get C iX0 0 rfl rfl 5 (by decide) kw0 rfl rfl dX0_searchMinutes_2 5 rfl ?_
  refine g_iload_n C dX0_searchMinutes_5 6 rfl 1 rfl ?_
  obtain ⟨x2, e1, hf⟩ := bd1_s hf
  refine g_iald C 2 0 rfl rfl e1 dX0_searchMinutes_6 7 rfl ?_
  refine g_iadd C dX0_searchMinutes_7 8 rfl ?_
  refine g_aload_n C dX0_searchMinutes_8 9 rfl 0 rfl ?_
  obtain ⟨x3, e4, hf⟩ := bd1_s hf
  refine g_callV1 C (m_X0_addedSnores hfl (h := h) e4) cf_X0_addedSnores gX0_searchMinutes_X0_addedSnores ⟨Nat.le_of_ble_eq_true rfl, Nat.le_of_ble_eq_true rfl⟩ (q0 := 0) (As := []) (rest := [.int (2 + x2)]) (wl := []) (wr := []) (c2 := 0) (s2 := 0) rfl rfl rfl rfl rfl rfl (Nat.le_of_ble_eq_true rfl) rfl rfl ⟨Nat.le_of_ble_eq_true rfl, Nat.le_of_ble_eq_true rfl⟩ dX0_searchMinutes_9 12 rfl (ws2 := wB cyI h b) rfl (st2 := [.int x3, .int (2 + x2)]) rfl ?_
  refine g_iconst C dX0_searchMinutes_12 13 rfl ic_4 ?_
  refine g_idiv C (by decide) dX0_searchMinutes_13 14 rfl ?_
  refine g_iadd C dX0_searchMinutes_14 15 rfl ?_
  refine g_Q hQ ?_
  exact g_iret C hr (by cases hf; rfl) (Nat.le_of_ble_eq_true rfl) (Nat.le_of_ble_eq_true rfl) dX0_searchMinutes_15
abbrev rm_X0_finds : Room := { frames := 1, cells := 0, slots := 0, locals := 22 }
theorem cf_X0_finds : CF yX0_finds wsX0_finds rm_X0_finds cX0_finds 4 (some .boolean) 2 0 0 RX0 := ⟨⟨_, rfl⟩, rfl, rfl, rfl, by decide, by decide, by decide +kernel⟩
set_option maxHeartbeats 4000000 in
set_option maxRecDepth 100000 in
theorem m_X0_finds {l : Launch} (hfl : l.stackTraces = false) {D : va_G} {cyI cyZ cyJ : ClassId} {sc : SC} {h : Nat → Nat} {b : S2} {a0 : Int32} {a1 : Int32} {rx : Int32} (hf : X0_finds b a0 a1 = some rx) : Ct (ev_s, sc) l yX0_finds wsX0_finds rm_X0_finds D (ty3 cyI cyZ cyJ) [.ref (h 0), .int a0, .int a1] (wB cyI h b) (fun o => o = .inr (some (.int rx), wB cyI h b)) 0 0 := by
  refine ct_of (cc := cX0_finds) (nL := 4) (own := RX0) (ret := (some .boolean)) hfl (by decide) rfl rfl (Nat.le_of_ble_eq_true rfl) (fun p e s m args below meth c A C hr hnm => ?_)
  refine g_setQ (fun Q hQ => ?_)
  have kw0 := Cx.w C (.fieldLink RX0 49 "SleepBorder$Border" "alertness" "[I") (by decide +kernel)
  have iX0 : ∀ w ∈ u_ws RX0 TX0 15, w ∈ wsX0_finds := by decide +kernel
  unfold X0_finds at hf
  refine g_lve (lv' := [(0, .ref (h 0)), (1, .int a0), (2, .int a1)]) rfl ?_
  refine g_aload_n C dX0_finds_0 1 rfl 0 rfl ?_
  refine g_iload_n C dX0_finds_1 2 rfl 2 rfl ?_
  obtain ⟨x1, e2, hf⟩ := bd1_s hf
  refine g_callV1 C (m_X0_hiddenDreams hfl (h := h) e2) cf_X0_hiddenDreams gX0_finds_X0_hiddenDreams ⟨Nat.le_of_ble_eq_true rfl, Nat.le_of_ble_eq_true rfl⟩ (q0 := 0) (As := [.int a1]) (rest := []) (wl := []) (wr := []) (c2 := 0) (s2 := 0) rfl rfl rfl rfl rfl rfl (Nat.le_of_ble_eq_true rfl) rfl rfl ⟨Nat.le_of_ble_eq_true rfl, Nat.le_of_ble_eq_true rfl⟩ dX0_finds_2 5 rfl (ws2 := wB cyI h b) rfl (st2 := [.int x1]) rfl ?_
  refine g_istore_n C dX0_finds_5 6 rfl (by decide) (lv' := [(3, .int x1), (0, .ref (h 0)), (1, .int a0), (2, .int a1)]) rfl ?_
  refine g_iload_n C dX0_finds_6 7 rfl 0 rfl ?_
  refine g_if_le C dX0_finds_7 27 10 (by decide) rfl (fun c3 => ?_) (fun c3 => ?_)
  · have hf := ifp c3 hf
    refine g_iconst C dX0_finds_27 28 rfl ic_0 ?_
    refine g_Q hQ ?_
    exact g_zret C hr (Or.inl rfl) (by cases hf; rfl) (Nat.le_of_ble_eq_true rfl) (Nat.le_of_ble_eq_true rfl) dX0_finds_28
  · have hf := ifn c3 hf
    refine g_iload_n C dX0_finds_10 11 rfl 0 rfl ?_
    refine g_aload_n C dX0_finds_11 12 rfl 1 rfl ?_
    refine g_get C iX0 0 rfl rfl 12 (by decide) kw0 rfl rfl dX0_finds_12 15 rfl ?_
    refine g_iload_n C dX0_finds_15 16 rfl 2 rfl ?_
    obtain ⟨x5, e4, hf⟩ := bd1_s hf
    refine g_iald C 8 0 rfl rfl e4 dX0_finds_16 17 rfl ?_
    refine g_iadd C dX0_finds_17 18 rfl ?_
    refine g_bipush C dX0_finds_18 20 rfl bp_10 ?_
    refine g_icmp_lt C dX0_finds_20 27 23 (by decide) rfl (fun c6 => ?_) (fun c6 => ?_)
    · have hf := ifp c6 hf
      refine g_iconst C dX0_finds_27 28 rfl ic_0 ?_
      refine g_Q hQ ?_
      exact g_zret C hr (Or.inl rfl) (by cases hf; rfl) (Nat.le_of_ble_eq_true rfl) (Nat.le_of_ble_eq_true rfl) dX0_finds_28
    · have hf := ifn c6 hf
      refine g_iconst C dX0_finds_23 24 rfl ic_1 ?_
      refine g_goto C dX0_finds_24 28 (by decide) ?_
      refine g_Q hQ ?_
      exact g_zret C hr (Or.inr rfl) (by cases hf; rfl) (Nat.le_of_ble_eq_true rfl) (Nat.le_of_ble_eq_true rfl) dX0_finds_28
abbrev rm_X0_advanceTransits : Room := { frames := 0, cells := 0, slots := 0, locals := 0 }
theorem cf_X0_advanceTransits : CF yX0_advanceTransits wsX0_advanceTransits rm_X0_advanceTransits cX0_advanceTransits 2 none 0 0 0 RX0 := ⟨⟨_, rfl⟩, rfl, rfl, rfl, by decide, by decide, by decide +kernel⟩
set_option maxHeartbeats 4000000 in
set_option maxRecDepth 100000 in
theorem m_X0_advanceTransits {l : Launch} (hfl : l.stackTraces = false) {D : va_G} {cyI cyZ cyJ : ClassId} {sc : SC} {h : Nat → Nat} {b : S2} {rb : S2} (hf : X0_advanceTransits b = some rb) : Ct (ev_s, sc) l yX0_advanceTransits wsX0_advanceTransits rm_X0_advanceTransits D (ty3 cyI cyZ cyJ) [.ref (h 0)] (wB cyI h b) (fun o => o = .inr (none, wB cyI h rb)) 0 0 := by
  refine ct_of (cc := cX0_advanceTransits) (nL := 2) (own := RX0) (ret := none) hfl (by decide) rfl rfl (Nat.le_of_ble_eq_true rfl) (fun p e s m args below meth c A C hr hnm => ?_)
  refine g_setQ (fun Q hQ => ?_)
  have kw0 := Cx.w C (.fieldLink RX0 21 "SleepBorder$Border" "travellerCount" "I") (by decide +kernel)
  have iX0 : ∀ w ∈ u_ws RX0 TX0 15, w ∈ wsX0_advanceTransits := by decide +kernel
  have kw2 := Cx.w C (.fieldLink RX0 37 "SleepBorder$Border" "state" "[I") (by decide +kernel)
  have kw3 := Cx.w C (.fieldLink RX0 40 "SleepBorder$Border" "transitLeft" "[I") (by decide +kernel)
  have kw4 := Cx.w C (.fieldLink RX0 43 "SleepBorder$Border" "asleepSince" "[I") (by decide +kernel)
  have kw5 := Cx.w C (.fieldLink RX0 9 "SleepBorder$Border" "clock" "I") (by decide +kernel)
  have L2 : ∀ (n : Nat) (l1 : Int32) (b : S2), X0_advanceTransits_L2 n l1 b = some rb → Gq p l e rm_X0_advanceTransits s m args below meth c D A 2 Q (wB cyI h b) 0 0 2 [(0, .ref (h 0)), (1, .int l1)] [] := by
    intro n
    induction n with
    | zero => intro l1 b hf; simp [X0_advanceTransits_L2] at hf
    | succ n ih =>
      intro l1 b hf
      rw [X0_advanceTransits_L2] at hf
      refine g_iload_n C dX0_advanceTransits_2 3 rfl 1 rfl ?_
      refine g_aload_n C dX0_advanceTransits_3 4 rfl 0 rfl ?_
      refine g_get C iX0 0 rfl rfl 3 (by decide) kw0 rfl rfl dX0_advanceTransits_4 7 rfl ?_
      refine g_icmp_ge C dX0_advanceTransits_7 64 10 (by decide) rfl (fun c1 => ?_) (fun c1 => ?_)
      · have hf := ifp c1 hf
        refine g_Q hQ ?_
        exact g_vret C hr (by cases hf; rfl) (Nat.le_of_ble_eq_true rfl) (Nat.le_of_ble_eq_true rfl) dX0_advanceTransits_64
      · have hf := ifn c1 hf
        refine g_aload_n C dX0_advanceTransits_10 11 rfl 0 rfl ?_
        refine g_get C iX0 0 rfl rfl 8 (by decide) kw2 rfl rfl dX0_advanceTransits_11 14 rfl ?_
        refine g_iload_n C dX0_advanceTransits_14 15 rfl 1 rfl ?_
        obtain ⟨x3, e2, hf⟩ := bd1_s hf
        refine g_iald C 5 0 rfl rfl e2 dX0_advanceTransits_15 16 rfl ?_
        refine g_iconst C dX0_advanceTransits_16 17 rfl ic_2 ?_
        refine g_icmp_ne C dX0_advanceTransits_17 58 20 (by decide) rfl (fun c4 => ?_) (fun c4 => ?_)
        · have hf := ifn c4 hf
          refine g_iinc C dX0_advanceTransits_58 61 rfl 1 rfl (ii_1 _) (by decide) (lv' := [(1, .int (l1 + 1)), (0, .ref (h 0))]) rfl ?_
          refine g_goto C dX0_advanceTransits_61 2 (by decide) ?_
          refine g_lv [1, 0] (lv' := [(0, .ref (h 0)), (1, .int (l1 + 1))]) rfl ?_
          exact ih (l1 + 1) b hf
        · have hf := ifp c4 hf
          refine g_aload_n C dX0_advanceTransits_20 21 rfl 0 rfl ?_
          refine g_get C iX0 0 rfl rfl 9 (by decide) kw3 rfl rfl dX0_advanceTransits_21 24 rfl ?_
          refine g_iload_n C dX0_advanceTransits_24 25 rfl 1 rfl ?_
          refine g_dup2 C dX0_advanceTransits_25 26 rfl rfl rfl ?_
          obtain ⟨x6, e5, hf⟩ := bd1_s hf
          refine g_iald C 6 0 rfl rfl e5 dX0_advanceTransits_26 27 rfl ?_
          refine g_iconst C dX0_advanceTransits_27 28 rfl ic_1 ?_
          refine g_isub C dX0_advanceTransits_28 29 rfl ?_
          obtain ⟨b_8, e7, hf⟩ := bd1_s hf
          refine g_iast C 6 0 rfl rfl (stA_in e7) (st_10 (cyI := cyI) (cyZ := cyZ) (cyJ := cyJ) e7) dX0_advanceTransits_29 30 rfl ?_
          refine g_aload_n C dX0_advanceTransits_30 31 rfl 0 rfl ?_
          refine g_get C iX0 0 rfl rfl 9 (by decide) kw3 rfl rfl dX0_advanceTransits_31 34 rfl ?_
          refine g_iload_n C dX0_advanceTransits_34 35 rfl 1 rfl ?_
          obtain ⟨x10, e9, hf⟩ := bd1_s hf
          refine g_iald C 6 0 rfl rfl e9 dX0_advanceTransits_35 36 rfl ?_
          refine g_if_gt C dX0_advanceTransits_36 58 39 (by decide) rfl (fun c11 => ?_) (fun c11 => ?_)
          · have hf := ifp c11 hf
            refine g_iinc C dX0_advanceTransits_58 61 rfl 1 rfl (ii_1 _) (by decide) (lv' := [(1, .int (l1 + 1)), (0, .ref (h 0))]) rfl ?_
            refine g_goto C dX0_advanceTransits_61 2 (by decide) ?_
            refine g_lv [1, 0] (lv' := [(0, .ref (h 0)), (1, .int (l1 + 1))]) rfl ?_
            exact ih (l1 + 1) b_8 hf
          · have hf := ifn c11 hf
            refine g_aload_n C dX0_advanceTransits_39 40 rfl 0 rfl ?_
            refine g_get C iX0 0 rfl rfl 8 (by decide) kw2 rfl rfl dX0_advanceTransits_40 43 rfl ?_
            refine g_iload_n C dX0_advanceTransits_43 44 rfl 1 rfl ?_
            refine g_iconst C dX0_advanceTransits_44 45 rfl ic_3 ?_
            obtain ⟨b_13, e12, hf⟩ := bd1_s hf
            refine g_iast C 5 0 rfl rfl (stA_in e12) (st_8 (cyI := cyI) (cyZ := cyZ) (cyJ := cyJ) e12) dX0_advanceTransits_45 46 rfl ?_
            refine g_aload_n C dX0_advanceTransits_46 47 rfl 0 rfl ?_
            refine g_get C iX0 0 rfl rfl 10 (by decide) kw4 rfl rfl dX0_advanceTransits_47 50 rfl ?_
            refine g_iload_n C dX0_advanceTransits_50 51 rfl 1 rfl ?_
            refine g_aload_n C dX0_advanceTransits_51 52 rfl 0 rfl ?_
            refine g_get C iX0 0 rfl rfl 0 (by decide) kw5 rfl rfl dX0_advanceTransits_52 55 rfl ?_
            refine g_iconst C dX0_advanceTransits_55 56 rfl ic_1 ?_
            refine g_iadd C dX0_advanceTransits_56 57 rfl ?_
            obtain ⟨b_15, e14, hf⟩ := bd1_s hf
            refine g_iast C 7 0 rfl rfl (stA_in e14) (st_11 (cyI := cyI) (cyZ := cyZ) (cyJ := cyJ) e14) dX0_advanceTransits_57 58 rfl ?_
            refine g_iinc C dX0_advanceTransits_58 61 rfl 1 rfl (ii_1 _) (by decide) (lv' := [(1, .int (l1 + 1)), (0, .ref (h 0))]) rfl ?_
            refine g_goto C dX0_advanceTransits_61 2 (by decide) ?_
            refine g_lv [1, 0] (lv' := [(0, .ref (h 0)), (1, .int (l1 + 1))]) rfl ?_
            exact ih (l1 + 1) b_15 hf
  unfold X0_advanceTransits at hf
  refine g_lve (lv' := [(0, .ref (h 0))]) rfl ?_
  refine g_iconst C dX0_advanceTransits_0 1 rfl ic_0 ?_
  refine g_istore_n C dX0_advanceTransits_1 2 rfl (by decide) (lv' := [(1, .int 0), (0, .ref (h 0))]) rfl ?_
  refine g_lv [1, 0] (lv' := [(0, .ref (h 0)), (1, .int 0)]) rfl ?_
  exact L2 200 0 b hf
abbrev rm_X0_shortenLullabies : Room := { frames := 0, cells := 0, slots := 0, locals := 0 }
theorem cf_X0_shortenLullabies : CF yX0_shortenLullabies wsX0_shortenLullabies rm_X0_shortenLullabies cX0_shortenLullabies 2 none 0 0 0 RX0 := ⟨⟨_, rfl⟩, rfl, rfl, rfl, by decide, by decide, by decide +kernel⟩
set_option maxHeartbeats 4000000 in
set_option maxRecDepth 100000 in
theorem m_X0_shortenLullabies {l : Launch} (hfl : l.stackTraces = false) {D : va_G} {cyI cyZ cyJ : ClassId} {sc : SC} {h : Nat → Nat} {b : S2} {rb : S2} (hf : X0_shortenLullabies b = some rb) : Ct (ev_s, sc) l yX0_shortenLullabies wsX0_shortenLullabies rm_X0_shortenLullabies D (ty3 cyI cyZ cyJ) [.ref (h 0)] (wB cyI h b) (fun o => o = .inr (none, wB cyI h rb)) 0 0 := by
  refine ct_of (cc := cX0_shortenLullabies) (nL := 2) (own := RX0) (ret := none) hfl (by decide) rfl rfl (Nat.le_of_ble_eq_true rfl) (fun p e s m args below meth c A C hr hnm => ?_)
  refine g_setQ (fun Q hQ => ?_)
  have kw0 := Cx.w C (.fieldLink RX0 21 "SleepBorder$Border" "travellerCount" "I") (by decide +kernel)
  have iX0 : ∀ w ∈ u_ws RX0 TX0 15, w ∈ wsX0_shortenLullabies := by decide +kernel
  have kw2 := Cx.w C (.fieldLink RX0 37 "SleepBorder$Border" "state" "[I") (by decide +kernel)
  have kw3 := Cx.w C (.fieldLink RX0 34 "SleepBorder$Border" "lullaby" "[I") (by decide +kernel)
  have kw4 := Cx.w C (.fieldLink RX0 15 "SleepBorder$Border" "expiredCount" "I") (by decide +kernel)
  have L2 : ∀ (n : Nat) (l1 : Int32) (b : S2), X0_shortenLullabies_L2 n l1 b = some rb → Gq p l e rm_X0_shortenLullabies s m args below meth c D A 2 Q (wB cyI h b) 0 0 2 [(0, .ref (h 0)), (1, .int l1)] [] := by
    intro n
    induction n with
    | zero => intro l1 b hf; simp [X0_shortenLullabies_L2] at hf
    | succ n ih =>
      intro l1 b hf
      rw [X0_shortenLullabies_L2] at hf
      refine g_iload_n C dX0_shortenLullabies_2 3 rfl 1 rfl ?_
      refine g_aload_n C dX0_shortenLullabies_3 4 rfl 0 rfl ?_
      refine g_get C iX0 0 rfl rfl 3 (by decide) kw0 rfl rfl dX0_shortenLullabies_4 7 rfl ?_
      refine g_icmp_ge C dX0_shortenLullabies_7 61 10 (by decide) rfl (fun c1 => ?_) (fun c1 => ?_)
      · have hf := ifp c1 hf
        refine g_Q hQ ?_
        exact g_vret C hr (by cases hf; rfl) (Nat.le_of_ble_eq_true rfl) (Nat.le_of_ble_eq_true rfl) dX0_shortenLullabies_61
      · have hf := ifn c1 hf
        refine g_aload_n C dX0_shortenLullabies_10 11 rfl 0 rfl ?_
        refine g_get C iX0 0 rfl rfl 8 (by decide) kw2 rfl rfl dX0_shortenLullabies_11 14 rfl ?_
        refine g_iload_n C dX0_shortenLullabies_14 15 rfl 1 rfl ?_
        obtain ⟨x3, e2, hf⟩ := bd1_s hf
        refine g_iald C 5 0 rfl rfl e2 dX0_shortenLullabies_15 16 rfl ?_
        refine g_if_ne C dX0_shortenLullabies_16 55 19 (by decide) rfl (fun c4 => ?_) (fun c4 => ?_)
        · have hf := ifn c4 hf
          refine g_iinc C dX0_shortenLullabies_55 58 rfl 1 rfl (ii_1 _) (by decide) (lv' := [(1, .int (l1 + 1)), (0, .ref (h 0))]) rfl ?_
          refine g_goto C dX0_shortenLullabies_58 2 (by decide) ?_
          refine g_lv [1, 0] (lv' := [(0, .ref (h 0)), (1, .int (l1 + 1))]) rfl ?_
          exact ih (l1 + 1) b hf
        · have hf := ifp c4 hf
          refine g_aload_n C dX0_shortenLullabies_19 20 rfl 0 rfl ?_
          refine g_get C iX0 0 rfl rfl 7 (by decide) kw3 rfl rfl dX0_shortenLullabies_20 23 rfl ?_
          refine g_iload_n C dX0_shortenLullabies_23 24 rfl 1 rfl ?_
          refine g_dup2 C dX0_shortenLullabies_24 25 rfl rfl rfl ?_
          obtain ⟨x6, e5, hf⟩ := bd1_s hf
          refine g_iald C 4 0 rfl rfl e5 dX0_shortenLullabies_25 26 rfl ?_
          refine g_iconst C dX0_shortenLullabies_26 27 rfl ic_1 ?_
          refine g_isub C dX0_shortenLullabies_27 28 rfl ?_
          obtain ⟨b_8, e7, hf⟩ := bd1_s hf
          refine g_iast C 4 0 rfl rfl (stA_in e7) (st_7 (cyI := cyI) (cyZ := cyZ) (cyJ := cyJ) e7) dX0_shortenLullabies_28 29 rfl ?_
          refine g_aload_n C dX0_shortenLullabies_29 30 rfl 0 rfl ?_
          refine g_get C iX0 0 rfl rfl 7 (by decide) kw3 rfl rfl dX0_shortenLullabies_30 33 rfl ?_
          refine g_iload_n C dX0_shortenLullabies_33 34 rfl 1 rfl ?_
          obtain ⟨x10, e9, hf⟩ := bd1_s hf
          refine g_iald C 4 0 rfl rfl e9 dX0_shortenLullabies_34 35 rfl ?_
          refine g_if_gt C dX0_shortenLullabies_35 55 38 (by decide) rfl (fun c11 => ?_) (fun c11 => ?_)
          · have hf := ifp c11 hf
            refine g_iinc C dX0_shortenLullabies_55 58 rfl 1 rfl (ii_1 _) (by decide) (lv' := [(1, .int (l1 + 1)), (0, .ref (h 0))]) rfl ?_
            refine g_goto C dX0_shortenLullabies_58 2 (by decide) ?_
            refine g_lv [1, 0] (lv' := [(0, .ref (h 0)), (1, .int (l1 + 1))]) rfl ?_
            exact ih (l1 + 1) b_8 hf
          · have hf := ifn c11 hf
            refine g_aload_n C dX0_shortenLullabies_38 39 rfl 0 rfl ?_
            refine g_get C iX0 0 rfl rfl 8 (by decide) kw2 rfl rfl dX0_shortenLullabies_39 42 rfl ?_
            refine g_iload_n C dX0_shortenLullabies_42 43 rfl 1 rfl ?_
            refine g_iconst C dX0_shortenLullabies_43 44 rfl ic_4 ?_
            obtain ⟨b_13, e12, hf⟩ := bd1_s hf
            refine g_iast C 5 0 rfl rfl (stA_in e12) (st_8 (cyI := cyI) (cyZ := cyZ) (cyJ := cyJ) e12) dX0_shortenLullabies_44 45 rfl ?_
            refine g_aload_n C dX0_shortenLullabies_45 46 rfl 0 rfl ?_
            refine g_dup C dX0_shortenLullabies_46 47 rfl rfl ?_
            refine g_get C iX0 0 rfl rfl 1 (by decide) kw4 rfl rfl dX0_shortenLullabies_47 50 rfl ?_
            refine g_iconst C dX0_shortenLullabies_50 51 rfl ic_1 ?_
            refine g_iadd C dX0_shortenLullabies_51 52 rfl ?_
            obtain ⟨b_15, e14, hf⟩ := bd1_s hf
            refine g_put C iX0 tyX0 tyX0_ok nmX0 0 rfl rfl 1 (by decide) kw4 rfl rfl rfl (Nat.le_of_ble_eq_true rfl) (st_12 (cyI := cyI) (cyZ := cyZ) (cyJ := cyJ) e14) dX0_shortenLullabies_52 55 rfl ?_
            refine g_iinc C dX0_shortenLullabies_55 58 rfl 1 rfl (ii_1 _) (by decide) (lv' := [(1, .int (l1 + 1)), (0, .ref (h 0))]) rfl ?_
            refine g_goto C dX0_shortenLullabies_58 2 (by decide) ?_
            refine g_lv [1, 0] (lv' := [(0, .ref (h 0)), (1, .int (l1 + 1))]) rfl ?_
            exact ih (l1 + 1) b_15 hf
  unfold X0_shortenLullabies at hf
  refine g_lve (lv' := [(0, .ref (h 0))]) rfl ?_
  refine g_iconst C dX0_shortenLullabies_0 1 rfl ic_0 ?_
  refine g_istore_n C dX0_shortenLullabies_1 2 rfl (by decide) (lv' := [(1, .int 0), (0, .ref (h 0))]) rfl ?_
  refine g_lv [1, 0] (lv' := [(0, .ref (h 0)), (1, .int 0)]) rfl ?_
  exact L2 200 0 b hf
abbrev rm_X0_beginSearchOrRest : Room := { frames := 2, cells := 0, slots := 0, locals := 43 }
theorem cf_X0_beginSearchOrRest : CF yX0_beginSearchOrRest wsX0_beginSearchOrRest rm_X0_beginSearchOrRest cX0_beginSearchOrRest 3 none 1 0 0 RX0 := ⟨⟨_, rfl⟩, rfl, rfl, rfl, by decide, by decide, by decide +kernel⟩
set_option maxHeartbeats 4000000 in
set_option maxRecDepth 100000 in
theorem m_X0_beginSearchOrRest {l : Launch} (hfl : l.stackTraces = false) {D : va_G} {cyI cyZ cyJ : ClassId} {sc : SC} {h : Nat → Nat} {b : S2} {a0 : Int32} {rb : S2} (hf : X0_beginSearchOrRest b a0 = some rb) : Ct (ev_s, sc) l yX0_beginSearchOrRest wsX0_beginSearchOrRest rm_X0_beginSearchOrRest D (ty3 cyI cyZ cyJ) [.ref (h 0), .int a0] (wB cyI h b) (fun o => o = .inr (none, wB cyI h rb)) 0 0 := by
  refine ct_of (cc := cX0_beginSearchOrRest) (nL := 3) (own := RX0) (ret := none) hfl (by decide) rfl rfl (Nat.le_of_ble_eq_true rfl) (fun p e s m args below meth c A C hr hnm => ?_)
  refine g_setQ (fun Q hQ => ?_)
  have kw0 := Cx.w C (.fieldLink RX0 49 "SleepBorder$Border" "alertness" "[I") (by decide +kernel)
  have iX0 : ∀ w ∈ u_ws RX0 TX0 15, w ∈ wsX0_beginSearchOrRest := by decide +kernel
  have kw2 := Cx.w C (.methodLink RX0 97 Lib.Math.min.name) (by decide +kernel)
  have kw3 := Cx.w C (.static Lib.Math.min.name) (by decide +kernel)
  have kw4 := Cx.w C (.initialized "java/lang/Math") (by decide +kernel)
  have kw5 := Cx.w C (.code Lib.Math.min.name Lib.Math.min.code 2 (some .int)) (by decide +kernel)
  have kw6 := Cx.w C (.fieldLink RX0 52 "SleepBorder$Border" "searched" "[I") (by decide +kernel)
  have kw7 := Cx.w C (.fieldLink RX0 55 "SleepBorder$Border" "searchLeft" "[I") (by decide +kernel)
  have kw8 := Cx.w C (.fieldLink RX0 37 "SleepBorder$Border" "state" "[I") (by decide +kernel)
  unfold X0_beginSearchOrRest at hf
  refine g_lve (lv' := [(0, .ref (h 0)), (1, .int a0)]) rfl ?_
  refine g_aload_n C dX0_beginSearchOrRest_0 1 rfl 0 rfl ?_
  obtain ⟨x1, e2, hf⟩ := bd1_s hf
  refine g_callV1 C (m_X0_firstWaiting hfl (h := h) e2) cf_X0_firstWaiting gX0_beginSearchOrRest_X0_firstWaiting ⟨Nat.le_of_ble_eq_true rfl, Nat.le_of_ble_eq_true rfl⟩ (q0 := 0) (As := []) (rest := []) (wl := []) (wr := []) (c2 := 0) (s2 := 0) rfl rfl rfl rfl rfl rfl (Nat.le_of_ble_eq_true rfl) rfl rfl ⟨Nat.le_of_ble_eq_true rfl, Nat.le_of_ble_eq_true rfl⟩ dX0_beginSearchOrRest_1 4 rfl (ws2 := wB cyI h b) rfl (st2 := [.int x1]) rfl ?_
  refine g_istore_n C dX0_beginSearchOrRest_4 5 rfl (by decide) (lv' := [(2, .int x1), (0, .ref (h 0)), (1, .int a0)]) rfl ?_
  refine g_aload_n C dX0_beginSearchOrRest_5 6 rfl 1 rfl ?_
  refine g_iload_n C dX0_beginSearchOrRest_6 7 rfl 0 rfl ?_
  obtain ⟨x3, e4, hf⟩ := bd1_s hf
  refine g_callV1 C (m_X0_isTraveller hfl (h := h) e4) cf_X0_isTraveller gX0_beginSearchOrRest_X0_isTraveller ⟨Nat.le_of_ble_eq_true rfl, Nat.le_of_ble_eq_true rfl⟩ (q0 := 0) (As := [.int x1]) (rest := []) (wl := []) (wr := []) (c2 := 0) (s2 := 0) rfl rfl rfl rfl rfl rfl (Nat.le_of_ble_eq_true rfl) rfl rfl ⟨Nat.le_of_ble_eq_true rfl, Nat.le_of_ble_eq_true rfl⟩ dX0_beginSearchOrRest_7 10 rfl (ws2 := wB cyI h b) rfl (st2 := [.int x3]) rfl ?_
  refine g_if_eq C dX0_beginSearchOrRest_10 41 13 (by decide) rfl (fun c5 => ?_) (fun c5 => ?_)
  · have hf := ifp c5 hf
    refine g_aload_n C dX0_beginSearchOrRest_41 42 rfl 1 rfl ?_
    refine g_get C iX0 0 rfl rfl 12 (by decide) kw0 rfl rfl dX0_beginSearchOrRest_42 45 rfl ?_
    refine g_iload_n C dX0_beginSearchOrRest_45 46 rfl 2 rfl ?_
    refine g_aload_n C dX0_beginSearchOrRest_46 47 rfl 1 rfl ?_
    refine g_get C iX0 0 rfl rfl 12 (by decide) kw0 rfl rfl dX0_beginSearchOrRest_47 50 rfl ?_
    refine g_iload_n C dX0_beginSearchOrRest_50 51 rfl 2 rfl ?_
    obtain ⟨x7, e6, hf⟩ := bd1_s hf
    refine g_iald C 8 0 rfl rfl e6 dX0_beginSearchOrRest_51 52 rfl ?_
    refine g_iconst C dX0_beginSearchOrRest_52 53 rfl ic_1 ?_
    refine g_iadd C dX0_beginSearchOrRest_53 54 rfl ?_
    refine g_bipush C dX0_beginSearchOrRest_54 56 rfl bp_9 ?_
    refine g_mmin C kw2 kw3 kw4 kw5 (Nat.le_of_ble_eq_true rfl) (Nat.le_of_ble_eq_true rfl) (Nat.le_of_ble_eq_true rfl) (Nat.le_of_ble_eq_true rfl) dX0_beginSearchOrRest_56 59 rfl ?_
    obtain ⟨b_9, e8, hf⟩ := bd1_s hf
    refine g_iast C 8 0 rfl rfl (stA_in e8) (st_0 (cyI := cyI) (cyZ := cyZ) (cyJ := cyJ) e8) dX0_beginSearchOrRest_59 60 rfl ?_
    refine g_Q hQ ?_
    exact g_vret C hr (by cases hf; rfl) (Nat.le_of_ble_eq_true rfl) (Nat.le_of_ble_eq_true rfl) dX0_beginSearchOrRest_60
  · have hf := ifn c5 hf
    refine g_aload_n C dX0_beginSearchOrRest_13 14 rfl 1 rfl ?_
    refine g_get C iX0 0 rfl rfl 13 (by decide) kw6 rfl rfl dX0_beginSearchOrRest_14 17 rfl ?_
    refine g_iload_n C dX0_beginSearchOrRest_17 18 rfl 2 rfl ?_
    refine g_iload_n C dX0_beginSearchOrRest_18 19 rfl 0 rfl ?_
    obtain ⟨b_11, e10, hf⟩ := bd1_s hf
    refine g_iast C 9 0 rfl rfl (stA_in e10) (st_1 (cyI := cyI) (cyZ := cyZ) (cyJ := cyJ) e10) dX0_beginSearchOrRest_19 20 rfl ?_
    refine g_aload_n C dX0_beginSearchOrRest_20 21 rfl 1 rfl ?_
    refine g_get C iX0 0 rfl rfl 14 (by decide) kw7 rfl rfl dX0_beginSearchOrRest_21 24 rfl ?_
    refine g_iload_n C dX0_beginSearchOrRest_24 25 rfl 2 rfl ?_
    refine g_aload_n C dX0_beginSearchOrRest_25 26 rfl 1 rfl ?_
    refine g_iload_n C dX0_beginSearchOrRest_26 27 rfl 0 rfl ?_
    obtain ⟨x12, e13, hf⟩ := bd1_s hf
    refine g_callV1 C (m_X0_searchMinutes hfl (h := h) e13) cf_X0_searchMinutes gX0_beginSearchOrRest_X0_searchMinutes ⟨Nat.le_of_ble_eq_true rfl, Nat.le_of_ble_eq_true rfl⟩ (q0 := 0) (As := [.int x1]) (rest := [.int a0, .ref (h 10)]) (wl := []) (wr := []) (c2 := 0) (s2 := 0) rfl rfl rfl rfl rfl rfl (Nat.le_of_ble_eq_true rfl) rfl rfl ⟨Nat.le_of_ble_eq_true rfl, Nat.le_of_ble_eq_true rfl⟩ dX0_beginSearchOrRest_27 30 rfl (ws2 := wB cyI h b_11) rfl (st2 := [.int x12, .int a0, .ref (h 10)]) rfl ?_
    obtain ⟨b_15, e14, hf⟩ := bd1_s hf
    refine g_iast C 10 0 rfl rfl (stA_in e14) (st_2 (cyI := cyI) (cyZ := cyZ) (cyJ := cyJ) e14) dX0_beginSearchOrRest_30 31 rfl ?_
    refine g_aload_n C dX0_beginSearchOrRest_31 32 rfl 1 rfl ?_
    refine g_get C iX0 0 rfl rfl 8 (by decide) kw8 rfl rfl dX0_beginSearchOrRest_32 35 rfl ?_
    refine g_iload_n C dX0_beginSearchOrRest_35 36 rfl 0 rfl ?_
    refine g_iconst C dX0_beginSearchOrRest_36 37 rfl ic_1 ?_
    obtain ⟨b_17, e16, hf⟩ := bd1_s hf
    refine g_iast C 5 0 rfl rfl (stA_in e16) (st_8 (cyI := cyI) (cyZ := cyZ) (cyJ := cyJ) e16) dX0_beginSearchOrRest_37 38 rfl ?_
    refine g_goto C dX0_beginSearchOrRest_38 60 (by decide) ?_
    refine g_Q hQ ?_
    exact g_vret C hr (by cases hf; rfl) (Nat.le_of_ble_eq_true rfl) (Nat.le_of_ble_eq_true rfl) dX0_beginSearchOrRest_60
abbrev rm_X0_searchOn : Room := { frames := 2, cells := 0, slots := 0, locals := 45 }
theorem cf_X0_searchOn : CF yX0_searchOn wsX0_searchOn rm_X0_searchOn cX0_searchOn 3 none 2 0 0 RX0 := ⟨⟨_, rfl⟩, rfl, rfl, rfl, by decide, by decide, by decide +kernel⟩
set_option maxHeartbeats 4000000 in
set_option maxRecDepth 100000 in
theorem m_X0_searchOn {l : Launch} (hfl : l.stackTraces = false) {D : va_G} {cyI cyZ cyJ : ClassId} {sc : SC} {h : Nat → Nat} {b : S2} {a0 : Int32} {a1 : Int32} {rb : S2} (hf : X0_searchOn b a0 a1 = some rb) : Ct (ev_s, sc) l yX0_searchOn wsX0_searchOn rm_X0_searchOn D (ty3 cyI cyZ cyJ) [.ref (h 0), .int a0, .int a1] (wB cyI h b) (fun o => o = .inr (none, wB cyI h rb)) 0 0 := by
  refine ct_of (cc := cX0_searchOn) (nL := 3) (own := RX0) (ret := none) hfl (by decide) rfl rfl (Nat.le_of_ble_eq_true rfl) (fun p e s m args below meth c A C hr hnm => ?_)
  refine g_setQ (fun Q hQ => ?_)
  have kw0 := Cx.w C (.fieldLink RX0 55 "SleepBorder$Border" "searchLeft" "[I") (by decide +kernel)
  have iX0 : ∀ w ∈ u_ws RX0 TX0 15, w ∈ wsX0_searchOn := by decide +kernel
  have kw2 := Cx.w C (.fieldLink RX0 37 "SleepBorder$Border" "state" "[I") (by decide +kernel)
  have kw3 := Cx.w C (.fieldLink RX0 40 "SleepBorder$Border" "transitLeft" "[I") (by decide +kernel)
  have kw4 := Cx.w C (.fieldLink RX0 52 "SleepBorder$Border" "searched" "[I") (by decide +kernel)
  have kw5 := Cx.w C (.fieldLink RX0 49 "SleepBorder$Border" "alertness" "[I") (by decide +kernel)
  have kw6 := Cx.w C (.methodLink RX0 107 Lib.Math.max.name) (by decide +kernel)
  have kw7 := Cx.w C (.static Lib.Math.max.name) (by decide +kernel)
  have kw8 := Cx.w C (.initialized "java/lang/Math") (by decide +kernel)
  have kw9 := Cx.w C (.code Lib.Math.max.name Lib.Math.max.code 2 (some .int)) (by decide +kernel)
  have kw10 := Cx.w C (.fieldLink RX0 18 "SleepBorder$Border" "till" "I") (by decide +kernel)
  unfold X0_searchOn at hf
  refine g_lve (lv' := [(0, .ref (h 0)), (1, .int a0), (2, .int a1)]) rfl ?_
  refine g_aload_n C dX0_searchOn_0 1 rfl 0 rfl ?_
  refine g_get C iX0 0 rfl rfl 14 (by decide) kw0 rfl rfl dX0_searchOn_1 4 rfl ?_
  refine g_iload_n C dX0_searchOn_4 5 rfl 1 rfl ?_
  refine g_dup2 C dX0_searchOn_5 6 rfl rfl rfl ?_
  obtain ⟨x2, e1, hf⟩ := bd1_s hf
  refine g_iald C 10 0 rfl rfl e1 dX0_searchOn_6 7 rfl ?_
  refine g_iconst C dX0_searchOn_7 8 rfl ic_1 ?_
  refine g_isub C dX0_searchOn_8 9 rfl ?_
  obtain ⟨b_4, e3, hf⟩ := bd1_s hf
  refine g_iast C 10 0 rfl rfl (stA_in e3) (st_2 (cyI := cyI) (cyZ := cyZ) (cyJ := cyJ) e3) dX0_searchOn_9 10 rfl ?_
  refine g_aload_n C dX0_searchOn_10 11 rfl 0 rfl ?_
  refine g_get C iX0 0 rfl rfl 14 (by decide) kw0 rfl rfl dX0_searchOn_11 14 rfl ?_
  refine g_iload_n C dX0_searchOn_14 15 rfl 1 rfl ?_
  obtain ⟨x6, e5, hf⟩ := bd1_s hf
  refine g_iald C 10 0 rfl rfl e5 dX0_searchOn_15 16 rfl ?_
  refine g_if_le C dX0_searchOn_16 20 19 (by decide) rfl (fun c7 => ?_) (fun c7 => ?_)
  · have hf := ifp c7 hf
    refine g_aload_n C dX0_searchOn_20 21 rfl 0 rfl ?_
    refine g_iload_n C dX0_searchOn_21 22 rfl 1 rfl ?_
    refine g_iload_n C dX0_searchOn_22 23 rfl 2 rfl ?_
    obtain ⟨x8, e9, hf⟩ := bd1_s hf
    refine g_callV1 C (m_X0_finds hfl (h := h) e9) cf_X0_finds gX0_searchOn_X0_finds ⟨Nat.le_of_ble_eq_true rfl, Nat.le_of_ble_eq_true rfl⟩ (q0 := 0) (As := [.int a0, .int a1]) (rest := []) (wl := []) (wr := []) (c2 := 0) (s2 := 0) rfl rfl rfl rfl rfl rfl (Nat.le_of_ble_eq_true rfl) rfl rfl ⟨Nat.le_of_ble_eq_true rfl, Nat.le_of_ble_eq_true rfl⟩ dX0_searchOn_23 26 rfl (ws2 := wB cyI h b_4) rfl (st2 := [.int x8]) rfl ?_
    refine g_if_eq C dX0_searchOn_26 55 29 (by decide) rfl (fun c10 => ?_) (fun c10 => ?_)
    · have hf := ifp c10 hf
      refine g_aload_n C dX0_searchOn_55 56 rfl 0 rfl ?_
      refine g_get C iX0 0 rfl rfl 8 (by decide) kw2 rfl rfl dX0_searchOn_56 59 rfl ?_
      refine g_iload_n C dX0_searchOn_59 60 rfl 2 rfl ?_
      refine g_iconst C dX0_searchOn_60 61 rfl ic_2 ?_
      obtain ⟨b_12, e11, hf⟩ := bd1_s hf
      refine g_iast C 5 0 rfl rfl (stA_in e11) (st_8 (cyI := cyI) (cyZ := cyZ) (cyJ := cyJ) e11) dX0_searchOn_61 62 rfl ?_
      refine g_aload_n C dX0_searchOn_62 63 rfl 0 rfl ?_
      refine g_get C iX0 0 rfl rfl 9 (by decide) kw3 rfl rfl dX0_searchOn_63 66 rfl ?_
      refine g_iload_n C dX0_searchOn_66 67 rfl 2 rfl ?_
      refine g_iconst C dX0_searchOn_67 68 rfl ic_5 ?_
      obtain ⟨b_14, e13, hf⟩ := bd1_s hf
      refine g_iast C 6 0 rfl rfl (stA_in e13) (st_10 (cyI := cyI) (cyZ := cyZ) (cyJ := cyJ) e13) dX0_searchOn_68 69 rfl ?_
      refine g_aload_n C dX0_searchOn_69 70 rfl 0 rfl ?_
      refine g_get C iX0 0 rfl rfl 13 (by decide) kw4 rfl rfl dX0_searchOn_70 73 rfl ?_
      refine g_iload_n C dX0_searchOn_73 74 rfl 1 rfl ?_
      refine g_iconst C dX0_searchOn_74 75 rfl ic_m1 ?_
      obtain ⟨b_16, e15, hf⟩ := bd1_s hf
      refine g_iast C 9 0 rfl rfl (stA_in e15) (st_1 (cyI := cyI) (cyZ := cyZ) (cyJ := cyJ) e15) dX0_searchOn_75 76 rfl ?_
      refine g_aload_n C dX0_searchOn_76 77 rfl 0 rfl ?_
      refine g_get C iX0 0 rfl rfl 12 (by decide) kw5 rfl rfl dX0_searchOn_77 80 rfl ?_
      refine g_iload_n C dX0_searchOn_80 81 rfl 1 rfl ?_
      refine g_aload_n C dX0_searchOn_81 82 rfl 0 rfl ?_
      refine g_get C iX0 0 rfl rfl 12 (by decide) kw5 rfl rfl dX0_searchOn_82 85 rfl ?_
      refine g_iload_n C dX0_searchOn_85 86 rfl 1 rfl ?_
      obtain ⟨x18, e17, hf⟩ := bd1_s hf
      refine g_iald C 8 0 rfl rfl e17 dX0_searchOn_86 87 rfl ?_
      refine g_iconst C dX0_searchOn_87 88 rfl ic_1 ?_
      refine g_isub C dX0_searchOn_88 89 rfl ?_
      refine g_iconst C dX0_searchOn_89 90 rfl ic_0 ?_
      refine g_mmax C kw6 kw7 kw8 kw9 (Nat.le_of_ble_eq_true rfl) (Nat.le_of_ble_eq_true rfl) (Nat.le_of_ble_eq_true rfl) (Nat.le_of_ble_eq_true rfl) dX0_searchOn_90 93 rfl ?_
      obtain ⟨b_20, e19, hf⟩ := bd1_s hf
      refine g_iast C 8 0 rfl rfl (stA_in e19) (st_0 (cyI := cyI) (cyZ := cyZ) (cyJ := cyJ) e19) dX0_searchOn_93 94 rfl ?_
      refine g_Q hQ ?_
      exact g_vret C hr (by cases hf; rfl) (Nat.le_of_ble_eq_true rfl) (Nat.le_of_ble_eq_true rfl) dX0_searchOn_94
    · have hf := ifn c10 hf
      refine g_aload_n C dX0_searchOn_29 30 rfl 0 rfl ?_
      refine g_dup C dX0_searchOn_30 31 rfl rfl ?_
      refine g_get C iX0 0 rfl rfl 2 (by decide) kw10 rfl rfl dX0_searchOn_31 34 rfl ?_
      refine g_iconst C dX0_searchOn_34 35 rfl ic_3 ?_
      refine g_aload_n C dX0_searchOn_35 36 rfl 0 rfl ?_
      refine g_iload_n C dX0_searchOn_36 37 rfl 2 rfl ?_
      obtain ⟨x21, e22, hf⟩ := bd1_s hf
      refine g_callV1 C (m_X0_hiddenDreams hfl (h := h) e22) cf_X0_hiddenDreams gX0_searchOn_X0_hiddenDreams ⟨Nat.le_of_ble_eq_true rfl, Nat.le_of_ble_eq_true rfl⟩ (q0 := 0) (As := [.int a1]) (rest := [.int 3, .int (b_4 0 2), .ref (h 0)]) (wl := []) (wr := []) (c2 := 0) (s2 := 0) rfl rfl rfl rfl rfl rfl (Nat.le_of_ble_eq_true rfl) rfl rfl ⟨Nat.le_of_ble_eq_true rfl, Nat.le_of_ble_eq_true rfl⟩ dX0_searchOn_37 40 rfl (ws2 := wB cyI h b_4) rfl (st2 := [.int x21, .int 3, .int (b_4 0 2), .ref (h 0)]) rfl ?_
      refine g_imul C dX0_searchOn_40 41 rfl ?_
      refine g_iadd C dX0_searchOn_41 42 rfl ?_
      obtain ⟨b_24, e23, hf⟩ := bd1_s hf
      refine g_put C iX0 tyX0 tyX0_ok nmX0 0 rfl rfl 2 (by decide) kw10 rfl rfl rfl (Nat.le_of_ble_eq_true rfl) (st_14 (cyI := cyI) (cyZ := cyZ) (cyJ := cyJ) e23) dX0_searchOn_42 45 rfl ?_
      refine g_aload_n C dX0_searchOn_45 46 rfl 0 rfl ?_
      refine g_get C iX0 0 rfl rfl 8 (by decide) kw2 rfl rfl dX0_searchOn_46 49 rfl ?_
      refine g_iload_n C dX0_searchOn_49 50 rfl 2 rfl ?_
      refine g_iconst C dX0_searchOn_50 51 rfl ic_4 ?_
      obtain ⟨b_26, e25, hf⟩ := bd1_s hf
      refine g_iast C 5 0 rfl rfl (stA_in e25) (st_8 (cyI := cyI) (cyZ := cyZ) (cyJ := cyJ) e25) dX0_searchOn_51 52 rfl ?_
      refine g_goto C dX0_searchOn_52 69 (by decide) ?_
      refine g_aload_n C dX0_searchOn_69 70 rfl 0 rfl ?_
      refine g_get C iX0 0 rfl rfl 13 (by decide) kw4 rfl rfl dX0_searchOn_70 73 rfl ?_
      refine g_iload_n C dX0_searchOn_73 74 rfl 1 rfl ?_
      refine g_iconst C dX0_searchOn_74 75 rfl ic_m1 ?_
      obtain ⟨b_28, e27, hf⟩ := bd1_s hf
      refine g_iast C 9 0 rfl rfl (stA_in e27) (st_1 (cyI := cyI) (cyZ := cyZ) (cyJ := cyJ) e27) dX0_searchOn_75 76 rfl ?_
      refine g_aload_n C dX0_searchOn_76 77 rfl 0 rfl ?_
      refine g_get C iX0 0 rfl rfl 12 (by decide) kw5 rfl rfl dX0_searchOn_77 80 rfl ?_
      refine g_iload_n C dX0_searchOn_80 81 rfl 1 rfl ?_
      refine g_aload_n C dX0_searchOn_81 82 rfl 0 rfl ?_
      refine g_get C iX0 0 rfl rfl 12 (by decide) kw5 rfl rfl dX0_searchOn_82 85 rfl ?_
      refine g_iload_n C dX0_searchOn_85 86 rfl 1 rfl ?_
      obtain ⟨x30, e29, hf⟩ := bd1_s hf
      refine g_iald C 8 0 rfl rfl e29 dX0_searchOn_86 87 rfl ?_
      refine g_iconst C dX0_searchOn_87 88 rfl ic_1 ?_
      refine g_isub C dX0_searchOn_88 89 rfl ?_
      refine g_iconst C dX0_searchOn_89 90 rfl ic_0 ?_
      refine g_mmax C kw6 kw7 kw8 kw9 (Nat.le_of_ble_eq_true rfl) (Nat.le_of_ble_eq_true rfl) (Nat.le_of_ble_eq_true rfl) (Nat.le_of_ble_eq_true rfl) dX0_searchOn_90 93 rfl ?_
      obtain ⟨b_32, e31, hf⟩ := bd1_s hf
      refine g_iast C 8 0 rfl rfl (stA_in e31) (st_0 (cyI := cyI) (cyZ := cyZ) (cyJ := cyJ) e31) dX0_searchOn_93 94 rfl ?_
      refine g_Q hQ ?_
      exact g_vret C hr (by cases hf; rfl) (Nat.le_of_ble_eq_true rfl) (Nat.le_of_ble_eq_true rfl) dX0_searchOn_94
  · have hf := ifn c7 hf
    refine g_Q hQ ?_
    exact g_vret C hr (by cases hf; rfl) (Nat.le_of_ble_eq_true rfl) (Nat.le_of_ble_eq_true rfl) dX0_searchOn_19
abbrev rm_X0_goOneMinute : Room := { frames := 3, cells := 0, slots := 0, locals := 67 }
theorem cf_X0_goOneMinute : CF yX0_goOneMinute wsX0_goOneMinute rm_X0_goOneMinute cX0_goOneMinute 3 none 0 0 0 RX0 := ⟨⟨_, rfl⟩, rfl, rfl, rfl, by decide, by decide, by decide +kernel⟩
set_option maxHeartbeats 4000000 in
set_option maxRecDepth 100000 in
theorem m_X0_goOneMinute {l : Launch} (hfl : l.stackTraces = false) {D : va_G} {cyI cyZ cyJ : ClassId} {sc : SC} {h : Nat → Nat} {b : S2} {rb : S2} (hf : X0_goOneMinute b = some rb) : Ct (ev_s, sc) l yX0_goOneMinute wsX0_goOneMinute rm_X0_goOneMinute D (ty3 cyI cyZ cyJ) [.ref (h 0)] (wB cyI h b) (fun o => o = .inr (none, wB cyI h rb)) 0 0 := by
  refine ct_of (cc := cX0_goOneMinute) (nL := 3) (own := RX0) (ret := none) hfl (by decide) rfl rfl (Nat.le_of_ble_eq_true rfl) (fun p e s m args below meth c A C hr hnm => ?_)
  refine g_setQ (fun Q hQ => ?_)
  have kw0 := Cx.w C (.fieldLink RX0 46 "SleepBorder$Border" "guardCount" "I") (by decide +kernel)
  have iX0 : ∀ w ∈ u_ws RX0 TX0 15, w ∈ wsX0_goOneMinute := by decide +kernel
  have kw2 := Cx.w C (.fieldLink RX0 9 "SleepBorder$Border" "clock" "I") (by decide +kernel)
  have kw3 := Cx.w C (.fieldLink RX0 52 "SleepBorder$Border" "searched" "[I") (by decide +kernel)
  have L10 : ∀ (n : Nat) (l1 : Int32) (b : S2), X0_goOneMinute_L10 n l1 b = some rb → Gq p l e rm_X0_goOneMinute s m args below meth c D A 3 Q (wB cyI h b) 0 0 10 [(0, .ref (h 0)), (1, .int l1)] [] := by
    intro n
    induction n with
    | zero => intro l1 b hf; simp [X0_goOneMinute_L10] at hf
    | succ n ih =>
      intro l1 b hf
      rw [X0_goOneMinute_L10] at hf
      refine g_iload_n C dX0_goOneMinute_10 11 rfl 1 rfl ?_
      refine g_aload_n C dX0_goOneMinute_11 12 rfl 0 rfl ?_
      refine g_get C iX0 0 rfl rfl 11 (by decide) kw0 rfl rfl dX0_goOneMinute_12 15 rfl ?_
      refine g_icmp_ge C dX0_goOneMinute_15 53 18 (by decide) rfl (fun c5 => ?_) (fun c5 => ?_)
      · have hf := ifp c5 hf
        refine g_aload_n C dX0_goOneMinute_53 54 rfl 0 rfl ?_
        refine g_dup C dX0_goOneMinute_54 55 rfl rfl ?_
        refine g_get C iX0 0 rfl rfl 0 (by decide) kw2 rfl rfl dX0_goOneMinute_55 58 rfl ?_
        refine g_iconst C dX0_goOneMinute_58 59 rfl ic_1 ?_
        refine g_iadd C dX0_goOneMinute_59 60 rfl ?_
        obtain ⟨b_7, e6, hf⟩ := bd1_s hf
        refine g_put C iX0 tyX0 tyX0_ok nmX0 0 rfl rfl 0 (by decide) kw2 rfl rfl rfl (Nat.le_of_ble_eq_true rfl) (st_13 (cyI := cyI) (cyZ := cyZ) (cyJ := cyJ) e6) dX0_goOneMinute_60 63 rfl ?_
        refine g_Q hQ ?_
        exact g_vret C hr (by cases hf; rfl) (Nat.le_of_ble_eq_true rfl) (Nat.le_of_ble_eq_true rfl) dX0_goOneMinute_63
      · have hf := ifn c5 hf
        refine g_aload_n C dX0_goOneMinute_18 19 rfl 0 rfl ?_
        refine g_get C iX0 0 rfl rfl 13 (by decide) kw3 rfl rfl dX0_goOneMinute_19 22 rfl ?_
        refine g_iload_n C dX0_goOneMinute_22 23 rfl 1 rfl ?_
        obtain ⟨x9, e8, hf⟩ := bd1_s hf
        refine g_iald C 9 0 rfl rfl e8 dX0_goOneMinute_23 24 rfl ?_
        refine g_istore_n C dX0_goOneMinute_24 25 rfl (by decide) (lv' := [(2, .int x9), (0, .ref (h 0)), (1, .int l1)]) rfl ?_
        refine g_aload_n C dX0_goOneMinute_25 26 rfl 1 rfl ?_
        refine g_iload_n C dX0_goOneMinute_26 27 rfl 0 rfl ?_
        obtain ⟨x10, e11, hf⟩ := bd1_s hf
        refine g_callV1 C (m_X0_isTraveller hfl (h := h) e11) cf_X0_isTraveller gX0_goOneMinute_X0_isTraveller ⟨Nat.le_of_ble_eq_true rfl, Nat.le_of_ble_eq_true rfl⟩ (q0 := 0) (As := [.int x9]) (rest := []) (wl := []) (wr := []) (c2 := 0) (s2 := 0) rfl rfl rfl rfl rfl rfl (Nat.le_of_ble_eq_true rfl) rfl rfl ⟨Nat.le_of_ble_eq_true rfl, Nat.le_of_ble_eq_true rfl⟩ dX0_goOneMinute_27 30 rfl (ws2 := wB cyI h b) rfl (st2 := [.int x10]) rfl ?_
        refine g_if_eq C dX0_goOneMinute_30 42 33 (by decide) rfl (fun c12 => ?_) (fun c12 => ?_)
        · have hf := ifp c12 hf
          refine g_aload_n C dX0_goOneMinute_42 43 rfl 1 rfl ?_
          refine g_iload_n C dX0_goOneMinute_43 44 rfl 2 rfl ?_
          obtain ⟨b_13, e14, hf⟩ := bd1_s hf
          refine g_callV1 C (m_X0_beginSearchOrRest hfl (h := h) e14) cf_X0_beginSearchOrRest gX0_goOneMinute_X0_beginSearchOrRest ⟨Nat.le_of_ble_eq_true rfl, Nat.le_of_ble_eq_true rfl⟩ (q0 := 0) (As := [.int l1]) (rest := []) (wl := []) (wr := []) (c2 := 0) (s2 := 0) rfl rfl rfl rfl rfl rfl (Nat.le_of_ble_eq_true rfl) rfl rfl ⟨Nat.le_of_ble_eq_true rfl, Nat.le_of_ble_eq_true rfl⟩ dX0_goOneMinute_44 47 rfl (ws2 := wB cyI h b_13) rfl (st2 := []) rfl ?_
          refine g_iinc C dX0_goOneMinute_47 50 rfl 2 rfl (ii_1 _) (by decide) (lv' := [(1, .int (l1 + 1)), (2, .int x9), (0, .ref (h 0))]) rfl ?_
          refine g_goto C dX0_goOneMinute_50 10 (by decide) ?_
          refine g_lv [2, 0] (lv' := [(0, .ref (h 0)), (1, .int (l1 + 1))]) rfl ?_
          exact ih (l1 + 1) b_13 hf
        · have hf := ifn c12 hf
          refine g_aload_n C dX0_goOneMinute_33 34 rfl 1 rfl ?_
          refine g_iload_n C dX0_goOneMinute_34 35 rfl 2 rfl ?_
          refine g_iload_n C dX0_goOneMinute_35 36 rfl 0 rfl ?_
          obtain ⟨b_15, e16, hf⟩ := bd1_s hf
          refine g_callV1 C (m_X0_searchOn hfl (h := h) e16) cf_X0_searchOn gX0_goOneMinute_X0_searchOn ⟨Nat.le_of_ble_eq_true rfl, Nat.le_of_ble_eq_true rfl⟩ (q0 := 0) (As := [.int l1, .int x9]) (rest := []) (wl := []) (wr := []) (c2 := 0) (s2 := 0) rfl rfl rfl rfl rfl rfl (Nat.le_of_ble_eq_true rfl) rfl rfl ⟨Nat.le_of_ble_eq_true rfl, Nat.le_of_ble_eq_true rfl⟩ dX0_goOneMinute_36 39 rfl (ws2 := wB cyI h b_15) rfl (st2 := []) rfl ?_
          refine g_goto C dX0_goOneMinute_39 47 (by decide) ?_
          refine g_iinc C dX0_goOneMinute_47 50 rfl 2 rfl (ii_1 _) (by decide) (lv' := [(1, .int (l1 + 1)), (2, .int x9), (0, .ref (h 0))]) rfl ?_
          refine g_goto C dX0_goOneMinute_50 10 (by decide) ?_
          refine g_lv [2, 0] (lv' := [(0, .ref (h 0)), (1, .int (l1 + 1))]) rfl ?_
          exact ih (l1 + 1) b_15 hf
  unfold X0_goOneMinute at hf
  refine g_lve (lv' := [(0, .ref (h 0))]) rfl ?_
  refine g_aload_n C dX0_goOneMinute_0 1 rfl 0 rfl ?_
  obtain ⟨b_1, e2, hf⟩ := bd1_s hf
  refine g_callV1 C (m_X0_advanceTransits hfl (h := h) e2) cf_X0_advanceTransits gX0_goOneMinute_X0_advanceTransits ⟨Nat.le_of_ble_eq_true rfl, Nat.le_of_ble_eq_true rfl⟩ (q0 := 0) (As := []) (rest := []) (wl := []) (wr := []) (c2 := 0) (s2 := 0) rfl rfl rfl rfl rfl rfl (Nat.le_of_ble_eq_true rfl) rfl rfl ⟨Nat.le_of_ble_eq_true rfl, Nat.le_of_ble_eq_true rfl⟩ dX0_goOneMinute_1 4 rfl (ws2 := wB cyI h b_1) rfl (st2 := []) rfl ?_
  refine g_aload_n C dX0_goOneMinute_4 5 rfl 0 rfl ?_
  obtain ⟨b_3, e4, hf⟩ := bd1_s hf
  refine g_callV1 C (m_X0_shortenLullabies hfl (h := h) e4) cf_X0_shortenLullabies gX0_goOneMinute_X0_shortenLullabies ⟨Nat.le_of_ble_eq_true rfl, Nat.le_of_ble_eq_true rfl⟩ (q0 := 0) (As := []) (rest := []) (wl := []) (wr := []) (c2 := 0) (s2 := 0) rfl rfl rfl rfl rfl rfl (Nat.le_of_ble_eq_true rfl) rfl rfl ⟨Nat.le_of_ble_eq_true rfl, Nat.le_of_ble_eq_true rfl⟩ dX0_goOneMinute_5 8 rfl (ws2 := wB cyI h b_3) rfl (st2 := []) rfl ?_
  refine g_iconst C dX0_goOneMinute_8 9 rfl ic_0 ?_
  refine g_istore_n C dX0_goOneMinute_9 10 rfl (by decide) (lv' := [(1, .int 0), (0, .ref (h 0))]) rfl ?_
  refine g_lv [1, 0] (lv' := [(0, .ref (h 0)), (1, .int 0)]) rfl ?_
  exact L10 200 0 b_3 hf
