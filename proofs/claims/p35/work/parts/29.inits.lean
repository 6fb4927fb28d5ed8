/-! constructors (laid by wip/whole/gen) -/
abbrev rm_X0_init : Room := { frames := 1, cells := 10, slots := 192, locals := 12 }
theorem cf_X0_init : CF yX0_init wsX0_init rm_X0_init cX0_init 1 none 0 10 192 RX0 := ⟨⟨_, rfl⟩, rfl, rfl, rfl, by decide, by decide, by decide +kernel⟩
set_option maxHeartbeats 4000000 in
set_option maxRecDepth 100000 in
theorem m_X0_init {l : Launch} (hfl : l.stackTraces = false) {D : va_G} {cyI cyZ cyJ : ClassId} {sc : SC} {z0 : Nat} : Ct (ev_s, sc) l yX0_init wsX0_init rm_X0_init D (ty3 cyI cyZ cyJ) [.ref z0] [(z0, .inr (0, [.int 0, .int 0, .int 0, .int 0, .null, .null, .null, .null, .null, .null, .null, .int 0, .null, .null, .null]))] (fun o => ∃ h : Nat → Nat, h 0 = z0 ∧ o = .inr (none, wB cyI h zS)) 10 192 := by
  refine ct_of (cc := cX0_init) (nL := 1) (own := RX0) (ret := none) hfl (by decide) rfl rfl (Nat.le_of_ble_eq_true rfl) (fun p e s m args below meth c A C hr hnm => ?_)
  refine g_setQ (fun Q hQ => ?_)
  have kw0 := Cx.w C (.methodLink RX0 3 objectInit) (by decide +kernel)
  have kw1 := Cx.w C (.instanceMethod objectInit) (by decide +kernel)
  have kw2 := Cx.w C (.code objectInit ⟨#[0xb1]⟩ 1 none) (by decide +kernel)
  have kw3 := Cx.w C (.fieldLink RX0 9 "SleepBorder$Border" "clock" "I") (by decide +kernel)
  have kw4 := Cx.w C (.fieldLink RX0 15 "SleepBorder$Border" "expiredCount" "I") (by decide +kernel)
  have kw5 := Cx.w C (.fieldLink RX0 18 "SleepBorder$Border" "till" "I") (by decide +kernel)
  have kw6 := Cx.w C (.fieldLink RX0 21 "SleepBorder$Border" "travellerCount" "I") (by decide +kernel)
  have kw7 := Cx.w C (.arrayClass .int) (by decide +kernel)
  have kw8 := Cx.w C (.fieldLink RX0 24 "SleepBorder$Border" "dreams" "[I") (by decide +kernel)
  have kw9 := Cx.w C (.fieldLink RX0 28 "SleepBorder$Border" "declared" "[I") (by decide +kernel)
  have kw10 := Cx.w C (.fieldLink RX0 31 "SleepBorder$Border" "snore" "[I") (by decide +kernel)
  have kw11 := Cx.w C (.fieldLink RX0 34 "SleepBorder$Border" "lullaby" "[I") (by decide +kernel)
  have kw12 := Cx.w C (.fieldLink RX0 37 "SleepBorder$Border" "state" "[I") (by decide +kernel)
  have kw13 := Cx.w C (.fieldLink RX0 40 "SleepBorder$Border" "transitLeft" "[I") (by decide +kernel)
  have kw14 := Cx.w C (.fieldLink RX0 43 "SleepBorder$Border" "asleepSince" "[I") (by decide +kernel)
  have kw15 := Cx.w C (.fieldLink RX0 46 "SleepBorder$Border" "guardCount" "I") (by decide +kernel)
  have kw16 := Cx.w C (.fieldLink RX0 49 "SleepBorder$Border" "alertness" "[I") (by decide +kernel)
  have kw17 := Cx.w C (.fieldLink RX0 52 "SleepBorder$Border" "searched" "[I") (by decide +kernel)
  have kw18 := Cx.w C (.fieldLink RX0 55 "SleepBorder$Border" "searchLeft" "[I") (by decide +kernel)
  have iX0 : ∀ w ∈ u_ws RX0 TX0 15, w ∈ wsX0_init := by decide +kernel
  refine g_lve (lv' := [(0, .ref z0)]) rfl ?_
  refine g_aload_n C dX0_init_0 1 rfl 0 rfl ?_
  refine g_objinit C kw0 kw1 kw2 (Nat.le_of_ble_eq_true rfl) (Nat.le_of_ble_eq_true rfl) dX0_init_1 4 rfl ?_
  refine g_aload_n C dX0_init_4 5 rfl 0 rfl ?_
  refine g_iconst C dX0_init_5 6 rfl (v := 0) (by decide) ?_
  refine g_put C iX0 tyX0 tyX0_ok nmX0 0 rfl rfl 0 (by decide) kw3 rfl rfl rfl (Nat.le_of_ble_eq_true rfl) (ws' := [(z0, .inr (0, [.int 0, .int 0, .int 0, .int 0, .null, .null, .null, .null, .null, .null, .null, .int 0, .null, .null, .null]))]) rfl dX0_init_6 9 rfl ?_
  refine g_aload_n C dX0_init_9 10 rfl 0 rfl ?_
  refine g_iconst C dX0_init_10 11 rfl (v := 0) (by decide) ?_
  refine g_put C iX0 tyX0 tyX0_ok nmX0 0 rfl rfl 1 (by decide) kw4 rfl rfl rfl (Nat.le_of_ble_eq_true rfl) (ws' := [(z0, .inr (0, [.int 0, .int 0, .int 0, .int 0, .null, .null, .null, .null, .null, .null, .null, .int 0, .null, .null, .null]))]) rfl dX0_init_11 14 rfl ?_
  refine g_aload_n C dX0_init_14 15 rfl 0 rfl ?_
  refine g_iconst C dX0_init_15 16 rfl (v := 0) (by decide) ?_
  refine g_put C iX0 tyX0 tyX0_ok nmX0 0 rfl rfl 2 (by decide) kw5 rfl rfl rfl (Nat.le_of_ble_eq_true rfl) (ws' := [(z0, .inr (0, [.int 0, .int 0, .int 0, .int 0, .null, .null, .null, .null, .null, .null, .null, .int 0, .null, .null, .null]))]) rfl dX0_init_16 19 rfl ?_
  refine g_aload_n C dX0_init_19 20 rfl 0 rfl ?_
  refine g_iconst C dX0_init_20 21 rfl (v := 0) (by decide) ?_
  refine g_put C iX0 tyX0 tyX0_ok nmX0 0 rfl rfl 3 (by decide) kw6 rfl rfl rfl (Nat.le_of_ble_eq_true rfl) (ws' := [(z0, .inr (0, [.int 0, .int 0, .int 0, .int 0, .null, .null, .null, .null, .null, .null, .null, .int 0, .null, .null, .null]))]) rfl dX0_init_21 24 rfl ?_
  refine g_aload_n C dX0_init_24 25 rfl 0 rfl ?_
  refine g_bipush C dX0_init_25 27 rfl (v := 24) (by decide) ?_
  refine g_newa C (atype := .int) (a0 := (24, .inl (fun _ => 0))) (n := 24) kw7 rfl (fun _ h => by cases h) 0 rfl 24 (fun _ => rfl) (by decide) rfl (by decide) (c2 := 1) (s2 := 24) rfl rfl (Nat.le_of_ble_eq_true rfl) (Nat.le_of_ble_eq_true rfl) dX0_init_27 29 rfl (fun z1 => ?_)
  refine g_ws (ws' := [(z0, .inr (0, [.int 0, .int 0, .int 0, .int 0, .null, .null, .null, .null, .null, .null, .null, .int 0, .null, .null, .null])), (z1, .inl (cyI, 24, .inl (fun _ => 0)))]) rfl ?_
  refine g_putF C iX0 tyX0 tyX0_ok nmX0 0 rfl rfl 4 (by decide) kw8 rfl rfl hnm rfl (tyX0_ok 4 (by decide)) rfl rfl (Nat.le_of_ble_eq_true rfl) (ws' := [(z0, .inr (0, [.int 0, .int 0, .int 0, .int 0, .ref z1, .null, .null, .null, .null, .null, .null, .int 0, .null, .null, .null])), (z1, .inl (cyI, 24, .inl (fun _ => 0)))]) rfl dX0_init_29 32 rfl ?_
  refine g_aload_n C dX0_init_32 33 rfl 0 rfl ?_
  refine g_bipush C dX0_init_33 35 rfl (v := 24) (by decide) ?_
  refine g_newa C (atype := .int) (a0 := (24, .inl (fun _ => 0))) (n := 24) kw7 rfl (fun _ h => by cases h) 0 rfl 24 (fun _ => rfl) (by decide) rfl (by decide) (c2 := 2) (s2 := 48) rfl rfl (Nat.le_of_ble_eq_true rfl) (Nat.le_of_ble_eq_true rfl) dX0_init_35 37 rfl (fun z2 => ?_)
  refine g_ws (ws' := [(z0, .inr (0, [.int 0, .int 0, .int 0, .int 0, .ref z1, .null, .null, .null, .null, .null, .null, .int 0, .null, .null, .null])), (z1, .inl (cyI, 24, .inl (fun _ => 0))), (z2, .inl (cyI, 24, .inl (fun _ => 0)))]) rfl ?_
  refine g_putF C iX0 tyX0 tyX0_ok nmX0 0 rfl rfl 5 (by decide) kw9 rfl rfl hnm rfl (tyX0_ok 5 (by decide)) rfl rfl (Nat.le_of_ble_eq_true rfl) (ws' := [(z0, .inr (0, [.int 0, .int 0, .int 0, .int 0, .ref z1, .ref z2, .null, .null, .null, .null, .null, .int 0, .null, .null, .null])), (z1, .inl (cyI, 24, .inl (fun _ => 0))), (z2, .inl (cyI, 24, .inl (fun _ => 0)))]) rfl dX0_init_37 40 rfl ?_
  refine g_aload_n C dX0_init_40 41 rfl 0 rfl ?_
  refine g_bipush C dX0_init_41 43 rfl (v := 24) (by decide) ?_
  refine g_newa C (atype := .int) (a0 := (24, .inl (fun _ => 0))) (n := 24) kw7 rfl (fun _ h => by cases h) 0 rfl 24 (fun _ => rfl) (by decide) rfl (by decide) (c2 := 3) (s2 := 72) rfl rfl (Nat.le_of_ble_eq_true rfl) (Nat.le_of_ble_eq_true rfl) dX0_init_43 45 rfl (fun z3 => ?_)
  refine g_ws (ws' := [(z0, .inr (0, [.int 0, .int 0, .int 0, .int 0, .ref z1, .ref z2, .null, .null, .null, .null, .null, .int 0, .null, .null, .null])), (z1, .inl (cyI, 24, .inl (fun _ => 0))), (z2, .inl (cyI, 24, .inl (fun _ => 0))), (z3, .inl (cyI, 24, .inl (fun _ => 0)))]) rfl ?_
  refine g_putF C iX0 tyX0 tyX0_ok nmX0 0 rfl rfl 6 (by decide) kw10 rfl rfl hnm rfl (tyX0_ok 6 (by decide)) rfl rfl (Nat.le_of_ble_eq_true rfl) (ws' := [(z0, .inr (0, [.int 0, .int 0, .int 0, .int 0, .ref z1, .ref z2, .ref z3, .null, .null, .null, .null, .int 0, .null, .null, .null])), (z1, .inl (cyI, 24, .inl (fun _ => 0))), (z2, .inl (cyI, 24, .inl (fun _ => 0))), (z3, .inl (cyI, 24, .inl (fun _ => 0)))]) rfl dX0_init_45 48 rfl ?_
  refine g_aload_n C dX0_init_48 49 rfl 0 rfl ?_
  refine g_bipush C dX0_init_49 51 rfl (v := 24) (by decide) ?_
  refine g_newa C (atype := .int) (a0 := (24, .inl (fun _ => 0))) (n := 24) kw7 rfl (fun _ h => by cases h) 0 rfl 24 (fun _ => rfl) (by decide) rfl (by decide) (c2 := 4) (s2 := 96) rfl rfl (Nat.le_of_ble_eq_true rfl) (Nat.le_of_ble_eq_true rfl) dX0_init_51 53 rfl (fun z4 => ?_)
  refine g_ws (ws' := [(z0, .inr (0, [.int 0, .int 0, .int 0, .int 0, .ref z1, .ref z2, .ref z3, .null, .null, .null, .null, .int 0, .null, .null, .null])), (z1, .inl (cyI, 24, .inl (fun _ => 0))), (z2, .inl (cyI, 24, .inl (fun _ => 0))), (z3, .inl (cyI, 24, .inl (fun _ => 0))), (z4, .inl (cyI, 24, .inl (fun _ => 0)))]) rfl ?_
  refine g_putF C iX0 tyX0 tyX0_ok nmX0 0 rfl rfl 7 (by decide) kw11 rfl rfl hnm rfl (tyX0_ok 7 (by decide)) rfl rfl (Nat.le_of_ble_eq_true rfl) (ws' := [(z0, .inr (0, [.int 0, .int 0, .int 0, .int 0, .ref z1, .ref z2, .ref z3, .ref z4, .null, .null, .null, .int 0, .null, .null, .null])), (z1, .inl (cyI, 24, .inl (fun _ => 0))), (z2, .inl (cyI, 24, .inl (fun _ => 0))), (z3, .inl (cyI, 24, .inl (fun _ => 0))), (z4, .inl (cyI, 24, .inl (fun _ => 0)))]) rfl dX0_init_53 56 rfl ?_
  refine g_aload_n C dX0_init_56 57 rfl 0 rfl ?_
  refine g_bipush C dX0_init_57 59 rfl (v := 24) (by decide) ?_
  refine g_newa C (atype := .int) (a0 := (24, .inl (fun _ => 0))) (n := 24) kw7 rfl (fun _ h => by cases h) 0 rfl 24 (fun _ => rfl) (by decide) rfl (by decide) (c2 := 5) (s2 := 120) rfl rfl (Nat.le_of_ble_eq_true rfl) (Nat.le_of_ble_eq_true rfl) dX0_init_59 61 rfl (fun z5 => ?_)
  refine g_ws (ws' := [(z0, .inr (0, [.int 0, .int 0, .int 0, .int 0, .ref z1, .ref z2, .ref z3, .ref z4, .null, .null, .null, .int 0, .null, .null, .null])), (z1, .inl (cyI, 24, .inl (fun _ => 0))), (z2, .inl (cyI, 24, .inl (fun _ => 0))), (z3, .inl (cyI, 24, .inl (fun _ => 0))), (z4, .inl (cyI, 24, .inl (fun _ => 0))), (z5, .inl (cyI, 24, .inl (fun _ => 0)))]) rfl ?_
  refine g_putF C iX0 tyX0 tyX0_ok nmX0 0 rfl rfl 8 (by decide) kw12 rfl rfl hnm rfl (tyX0_ok 8 (by decide)) rfl rfl (Nat.le_of_ble_eq_true rfl) (ws' := [(z0, .inr (0, [.int 0, .int 0, .int 0, .int 0, .ref z1, .ref z2, .ref z3, .ref z4, .ref z5, .null, .null, .int 0, .null, .null, .null])), (z1, .inl (cyI, 24, .inl (fun _ => 0))), (z2, .inl (cyI, 24, .inl (fun _ => 0))), (z3, .inl (cyI, 24, .inl (fun _ => 0))), (z4, .inl (cyI, 24, .inl (fun _ => 0))), (z5, .inl (cyI, 24, .inl (fun _ => 0)))]) rfl dX0_init_61 64 rfl ?_
  refine g_aload_n C dX0_init_64 65 rfl 0 rfl ?_
  refine g_bipush C dX0_init_65 67 rfl (v := 24) (by decide) ?_
  refine g_newa C (atype := .int) (a0 := (24, .inl (fun _ => 0))) (n := 24) kw7 rfl (fun _ h => by cases h) 0 rfl 24 (fun _ => rfl) (by decide) rfl (by decide) (c2 := 6) (s2 := 144) rfl rfl (Nat.le_of_ble_eq_true rfl) (Nat.le_of_ble_eq_true rfl) dX0_init_67 69 rfl (fun z6 => ?_)
  refine g_ws (ws' := [(z0, .inr (0, [.int 0, .int 0, .int 0, .int 0, .ref z1, .ref z2, .ref z3, .ref z4, .ref z5, .null, .null, .int 0, .null, .null, .null])), (z1, .inl (cyI, 24, .inl (fun _ => 0))), (z2, .inl (cyI, 24, .inl (fun _ => 0))), (z3, .inl (cyI, 24, .inl (fun _ => 0))), (z4, .inl (cyI, 24, .inl (fun _ => 0))), (z5, .inl (cyI, 24, .inl (fun _ => 0))), (z6, .inl (cyI, 24, .inl (fun _ => 0)))]) rfl ?_
  refine g_putF C iX0 tyX0 tyX0_ok nmX0 0 rfl rfl 9 (by decide) kw13 rfl rfl hnm rfl (tyX0_ok 9 (by decide)) rfl rfl (Nat.le_of_ble_eq_true rfl) (ws' := [(z0, .inr (0, [.int 0, .int 0, .int 0, .int 0, .ref z1, .ref z2, .ref z3, .ref z4, .ref z5, .ref z6, .null, .int 0, .null, .null, .null])), (z1, .inl (cyI, 24, .inl (fun _ => 0))), (z2, .inl (cyI, 24, .inl (fun _ => 0))), (z3, .inl (cyI, 24, .inl (fun _ => 0))), (z4, .inl (cyI, 24, .inl (fun _ => 0))), (z5, .inl (cyI, 24, .inl (fun _ => 0))), (z6, .inl (cyI, 24, .inl (fun _ => 0)))]) rfl dX0_init_69 72 rfl ?_
  refine g_aload_n C dX0_init_72 73 rfl 0 rfl ?_
  refine g_bipush C dX0_init_73 75 rfl (v := 24) (by decide) ?_
  refine g_newa C (atype := .int) (a0 := (24, .inl (fun _ => 0))) (n := 24) kw7 rfl (fun _ h => by cases h) 0 rfl 24 (fun _ => rfl) (by decide) rfl (by decide) (c2 := 7) (s2 := 168) rfl rfl (Nat.le_of_ble_eq_true rfl) (Nat.le_of_ble_eq_true rfl) dX0_init_75 77 rfl (fun z7 => ?_)
  refine g_ws (ws' := [(z0, .inr (0, [.int 0, .int 0, .int 0, .int 0, .ref z1, .ref z2, .ref z3, .ref z4, .ref z5, .ref z6, .null, .int 0, .null, .null, .null])), (z1, .inl (cyI, 24, .inl (fun _ => 0))), (z2, .inl (cyI, 24, .inl (fun _ => 0))), (z3, .inl (cyI, 24, .inl (fun _ => 0))), (z4, .inl (cyI, 24, .inl (fun _ => 0))), (z5, .inl (cyI, 24, .inl (fun _ => 0))), (z6, .inl (cyI, 24, .inl (fun _ => 0))), (z7, .inl (cyI, 24, .inl (fun _ => 0)))]) rfl ?_
  refine g_putF C iX0 tyX0 tyX0_ok nmX0 0 rfl rfl 10 (by decide) kw14 rfl rfl hnm rfl (tyX0_ok 10 (by decide)) rfl rfl (Nat.le_of_ble_eq_true rfl) (ws' := [(z0, .inr (0, [.int 0, .int 0, .int 0, .int 0, .ref z1, .ref z2, .ref z3, .ref z4, .ref z5, .ref z6, .ref z7, .int 0, .null, .null, .null])), (z1, .inl (cyI, 24, .inl (fun _ => 0))), (z2, .inl (cyI, 24, .inl (fun _ => 0))), (z3, .inl (cyI, 24, .inl (fun _ => 0))), (z4, .inl (cyI, 24, .inl (fun _ => 0))), (z5, .inl (cyI, 24, .inl (fun _ => 0))), (z6, .inl (cyI, 24, .inl (fun _ => 0))), (z7, .inl (cyI, 24, .inl (fun _ => 0)))]) rfl dX0_init_77 80 rfl ?_
  refine g_aload_n C dX0_init_80 81 rfl 0 rfl ?_
  refine g_iconst C dX0_init_81 82 rfl (v := 0) (by decide) ?_
  refine g_put C iX0 tyX0 tyX0_ok nmX0 0 rfl rfl 11 (by decide) kw15 rfl rfl rfl (Nat.le_of_ble_eq_true rfl) (ws' := [(z0, .inr (0, [.int 0, .int 0, .int 0, .int 0, .ref z1, .ref z2, .ref z3, .ref z4, .ref z5, .ref z6, .ref z7, .int 0, .null, .null, .null])), (z1, .inl (cyI, 24, .inl (fun _ => 0))), (z2, .inl (cyI, 24, .inl (fun _ => 0))), (z3, .inl (cyI, 24, .inl (fun _ => 0))), (z4, .inl (cyI, 24, .inl (fun _ => 0))), (z5, .inl (cyI, 24, .inl (fun _ => 0))), (z6, .inl (cyI, 24, .inl (fun _ => 0))), (z7, .inl (cyI, 24, .inl (fun _ => 0)))]) rfl dX0_init_82 85 rfl ?_
  refine g_aload_n C dX0_init_85 86 rfl 0 rfl ?_
  refine g_bipush C dX0_init_86 88 rfl (v := 8) (by decide) ?_
  refine g_newa C (atype := .int) (a0 := (8, .inl (fun _ => 0))) (n := 8) kw7 rfl (fun _ h => by cases h) 0 rfl 8 (fun _ => rfl) (by decide) rfl (by decide) (c2 := 8) (s2 := 176) rfl rfl (Nat.le_of_ble_eq_true rfl) (Nat.le_of_ble_eq_true rfl) dX0_init_88 90 rfl (fun z8 => ?_)
  refine g_ws (ws' := [(z0, .inr (0, [.int 0, .int 0, .int 0, .int 0, .ref z1, .ref z2, .ref z3, .ref z4, .ref z5, .ref z6, .ref z7, .int 0, .null, .null, .null])), (z1, .inl (cyI, 24, .inl (fun _ => 0))), (z2, .inl (cyI, 24, .inl (fun _ => 0))), (z3, .inl (cyI, 24, .inl (fun _ => 0))), (z4, .inl (cyI, 24, .inl (fun _ => 0))), (z5, .inl (cyI, 24, .inl (fun _ => 0))), (z6, .inl (cyI, 24, .inl (fun _ => 0))), (z7, .inl (cyI, 24, .inl (fun _ => 0))), (z8, .inl (cyI, 8, .inl (fun _ => 0)))]) rfl ?_
  refine g_putF C iX0 tyX0 tyX0_ok nmX0 0 rfl rfl 12 (by decide) kw16 rfl rfl hnm rfl (tyX0_ok 12 (by decide)) rfl rfl (Nat.le_of_ble_eq_true rfl) (ws' := [(z0, .inr (0, [.int 0, .int 0, .int 0, .int 0, .ref z1, .ref z2, .ref z3, .ref z4, .ref z5, .ref z6, .ref z7, .int 0, .ref z8, .null, .null])), (z1, .inl (cyI, 24, .inl (fun _ => 0))), (z2, .inl (cyI, 24, .inl (fun _ => 0))), (z3, .inl (cyI, 24, .inl (fun _ => 0))), (z4, .inl (cyI, 24, .inl (fun _ => 0))), (z5, .inl (cyI, 24, .inl (fun _ => 0))), (z6, .inl (cyI, 24, .inl (fun _ => 0))), (z7, .inl (cyI, 24, .inl (fun _ => 0))), (z8, .inl (cyI, 8, .inl (fun _ => 0)))]) rfl dX0_init_90 93 rfl ?_
  refine g_aload_n C dX0_init_93 94 rfl 0 rfl ?_
  refine g_bipush C dX0_init_94 96 rfl (v := 8) (by decide) ?_
  refine g_newa C (atype := .int) (a0 := (8, .inl (fun _ => 0))) (n := 8) kw7 rfl (fun _ h => by cases h) 0 rfl 8 (fun _ => rfl) (by decide) rfl (by decide) (c2 := 9) (s2 := 184) rfl rfl (Nat.le_of_ble_eq_true rfl) (Nat.le_of_ble_eq_true rfl) dX0_init_96 98 rfl (fun z9 => ?_)
  refine g_ws (ws' := [(z0, .inr (0, [.int 0, .int 0, .int 0, .int 0, .ref z1, .ref z2, .ref z3, .ref z4, .ref z5, .ref z6, .ref z7, .int 0, .ref z8, .null, .null])), (z1, .inl (cyI, 24, .inl (fun _ => 0))), (z2, .inl (cyI, 24, .inl (fun _ => 0))), (z3, .inl (cyI, 24, .inl (fun _ => 0))), (z4, .inl (cyI, 24, .inl (fun _ => 0))), (z5, .inl (cyI, 24, .inl (fun _ => 0))), (z6, .inl (cyI, 24, .inl (fun _ => 0))), (z7, .inl (cyI, 24, .inl (fun _ => 0))), (z8, .inl (cyI, 8, .inl (fun _ => 0))), (z9, .inl (cyI, 8, .inl (fun _ => 0)))]) rfl ?_
  refine g_putF C iX0 tyX0 tyX0_ok nmX0 0 rfl rfl 13 (by decide) kw17 rfl rfl hnm rfl (tyX0_ok 13 (by decide)) rfl rfl (Nat.le_of_ble_eq_true rfl) (ws' := [(z0, .inr (0, [.int 0, .int 0, .int 0, .int 0, .ref z1, .ref z2, .ref z3, .ref z4, .ref z5, .ref z6, .ref z7, .int 0, .ref z8, .ref z9, .null])), (z1, .inl (cyI, 24, .inl (fun _ => 0))), (z2, .inl (cyI, 24, .inl (fun _ => 0))), (z3, .inl (cyI, 24, .inl (fun _ => 0))), (z4, .inl (cyI, 24, .inl (fun _ => 0))), (z5, .inl (cyI, 24, .inl (fun _ => 0))), (z6, .inl (cyI, 24, .inl (fun _ => 0))), (z7, .inl (cyI, 24, .inl (fun _ => 0))), (z8, .inl (cyI, 8, .inl (fun _ => 0))), (z9, .inl (cyI, 8, .inl (fun _ => 0)))]) rfl dX0_init_98 101 rfl ?_
  refine g_aload_n C dX0_init_101 102 rfl 0 rfl ?_
  refine g_bipush C dX0_init_102 104 rfl (v := 8) (by decide) ?_
  refine g_newa C (atype := .int) (a0 := (8, .inl (fun _ => 0))) (n := 8) kw7 rfl (fun _ h => by cases h) 0 rfl 8 (fun _ => rfl) (by decide) rfl (by decide) (c2 := 10) (s2 := 192) rfl rfl (Nat.le_of_ble_eq_true rfl) (Nat.le_of_ble_eq_true rfl) dX0_init_104 106 rfl (fun z10 => ?_)
  refine g_ws (ws' := [(z0, .inr (0, [.int 0, .int 0, .int 0, .int 0, .ref z1, .ref z2, .ref z3, .ref z4, .ref z5, .ref z6, .ref z7, .int 0, .ref z8, .ref z9, .null])), (z1, .inl (cyI, 24, .inl (fun _ => 0))), (z2, .inl (cyI, 24, .inl (fun _ => 0))), (z3, .inl (cyI, 24, .inl (fun _ => 0))), (z4, .inl (cyI, 24, .inl (fun _ => 0))), (z5, .inl (cyI, 24, .inl (fun _ => 0))), (z6, .inl (cyI, 24, .inl (fun _ => 0))), (z7, .inl (cyI, 24, .inl (fun _ => 0))), (z8, .inl (cyI, 8, .inl (fun _ => 0))), (z9, .inl (cyI, 8, .inl (fun _ => 0))), (z10, .inl (cyI, 8, .inl (fun _ => 0)))]) rfl ?_
  refine g_putF C iX0 tyX0 tyX0_ok nmX0 0 rfl rfl 14 (by decide) kw18 rfl rfl hnm rfl (tyX0_ok 14 (by decide)) rfl rfl (Nat.le_of_ble_eq_true rfl) (ws' := [(z0, .inr (0, [.int 0, .int 0, .int 0, .int 0, .ref z1, .ref z2, .ref z3, .ref z4, .ref z5, .ref z6, .ref z7, .int 0, .ref z8, .ref z9, .ref z10])), (z1, .inl (cyI, 24, .inl (fun _ => 0))), (z2, .inl (cyI, 24, .inl (fun _ => 0))), (z3, .inl (cyI, 24, .inl (fun _ => 0))), (z4, .inl (cyI, 24, .inl (fun _ => 0))), (z5, .inl (cyI, 24, .inl (fun _ => 0))), (z6, .inl (cyI, 24, .inl (fun _ => 0))), (z7, .inl (cyI, 24, .inl (fun _ => 0))), (z8, .inl (cyI, 8, .inl (fun _ => 0))), (z9, .inl (cyI, 8, .inl (fun _ => 0))), (z10, .inl (cyI, 8, .inl (fun _ => 0)))]) rfl dX0_init_106 109 rfl ?_
  refine g_Q hQ ?_
  exact g_vret C hr ⟨fun k => [z0, z1, z2, z3, z4, z5, z6, z7, z8, z9, z10].getD k 0, rfl, rfl⟩ (Nat.le_of_ble_eq_true rfl) (Nat.le_of_ble_eq_true rfl) dX0_init_109
abbrev rm_X1_init : Room := { frames := 2, cells := 22, slots := 414, locals := 40 }
theorem cf_X1_init : CF yX1_init wsX1_init rm_X1_init cX1_init 1 none 0 22 414 RX1 := ⟨⟨_, rfl⟩, rfl, rfl, rfl, by decide, by decide, by decide +kernel⟩
set_option maxHeartbeats 4000000 in
set_option maxRecDepth 100000 in
theorem m_X1_init {l : Launch} (hfl : l.stackTraces = false) {D : va_G} {cyI cyZ cyJ : ClassId} {sc : SC} {g : Nat} : Ct (ev_s, sc) l yX1_init wsX1_init rm_X1_init D (ty3 cyI cyZ cyJ) [.ref g] [(g, .inr (1, [.null, .null]))] (fun o => ∃ h1 h2 : Nat → Nat, o = .inr (none, wC g h1 h2 ++ (wB cyI h1 zS ++ wB cyI h2 zS))) 22 414 := by
  refine ct_of (cc := cX1_init) (nL := 1) (own := RX1) (ret := none) hfl (by decide) rfl rfl (Nat.le_of_ble_eq_true rfl) (fun p e s m args below meth c A C hr hnm => ?_)
  refine g_setQ (fun Q hQ => ?_)
  have kf10 := Cx.w C (.fieldLink RX1 10 "SleepBorder" "now" "LSleepBorder$Border;") (by decide +kernel)
  have kf16 := Cx.w C (.fieldLink RX1 16 "SleepBorder" "trial" "LSleepBorder$Border;") (by decide +kernel)
  have ka := Cx.w C (.methodLink RX1 1 objectInit) (by decide +kernel)
  have kb := Cx.w C (.instanceMethod objectInit) (by decide +kernel)
  have kc := Cx.w C (.code objectInit ⟨#[0xb1]⟩ 1 none) (by decide +kernel)
  have kcl := Cx.w C (.classLink RX1 7 RX0) (by decide +kernel)
  have kin := Cx.w C (.instantiable RX0 15) (by decide +kernel)
  have kini := Cx.w C (.initialized RX0) (by decide +kernel)
  have kim := Cx.w C (.instanceMethod yX0_init) (by decide +kernel)
  have iX0 : ∀ w ∈ u_ws RX0 TX0 15, w ∈ wsX1_init := by decide +kernel
  have iX1 : ∀ w ∈ u_ws RX1 TX1 2, w ∈ wsX1_init := by decide +kernel
  refine g_lve (lv' := [(0, .ref g)]) rfl ?_
  refine g_aload_n C dX1_init_0 1 rfl 0 rfl ?_
  refine g_objinit C ka kb kc (Nat.le_of_ble_eq_true rfl) (Nat.le_of_ble_eq_true rfl) dX1_init_1 4 rfl ?_
  refine g_aload_n C dX1_init_4 5 rfl 0 rfl ?_
  refine g_new C (ci := 0) (fs := [.int 0, .int 0, .int 0, .int 0, .null, .null, .null, .null, .null, .null, .null, .int 0, .null, .null, .null]) iX0 tyX0 tyX0_ok kcl kin kini rfl (by decide) (c2 := 1) (s2 := 15) rfl rfl (Nat.le_of_ble_eq_true rfl) (Nat.le_of_ble_eq_true rfl) dX1_init_5 8 rfl (fun z1 => ?_)
  refine g_dup C dX1_init_8 9 rfl rfl ?_
  refine g_callIN C (host := "SleepBorder") (m_X0_init hfl (z0 := z1)) (fun n h => by obtain ⟨_, _, h⟩ := h; cases h) cf_X0_init gX1_init_X0_init_n9 kini (by decide) kim rfl ⟨Nat.le_of_ble_eq_true rfl, Nat.le_of_ble_eq_true rfl⟩ (rest := [.ref z1, .ref g]) (wl := [(g, .inr (1, [.null, .null]))]) (wr := []) (c2 := 11) (s2 := 207) rfl rfl (Nat.le_of_ble_eq_true rfl) rfl rfl ⟨Nat.le_of_ble_eq_true rfl, Nat.le_of_ble_eq_true rfl⟩ dX1_init_9 12 rfl (fun rv W1 hW => ?_)
  obtain ⟨h1, rfl, hW⟩ := hW
  cases hW
  refine g_ws (ws' := [(g, .inr (1, [.null, .null]))] ++ wB cyI h1 zS) rfl ?_
  refine g_putF C iX1 tyX1 tyX1_ok nmX1 0 rfl rfl 0 (by decide) kf10 rfl rfl hnm rfl (tyX1_ok 0 (by decide)) rfl rfl (Nat.le_of_ble_eq_true rfl) (ws' := [(g, .inr (1, [.ref (h1 0), .null]))] ++ wB cyI h1 zS) rfl dX1_init_12 15 rfl ?_
  refine g_aload_n C dX1_init_15 16 rfl 0 rfl ?_
  refine g_new C (ci := 0) (fs := [.int 0, .int 0, .int 0, .int 0, .null, .null, .null, .null, .null, .null, .null, .int 0, .null, .null, .null]) iX0 tyX0 tyX0_ok kcl kin kini rfl (by decide) (c2 := 12) (s2 := 222) rfl rfl (Nat.le_of_ble_eq_true rfl) (Nat.le_of_ble_eq_true rfl) dX1_init_16 19 rfl (fun z2 => ?_)
  refine g_dup C dX1_init_19 20 rfl rfl ?_
  refine g_callIN C (host := "SleepBorder") (m_X0_init hfl (z0 := z2)) (fun n h => by obtain ⟨_, _, h⟩ := h; cases h) cf_X0_init gX1_init_X0_init_n9 kini (by decide) kim rfl ⟨Nat.le_of_ble_eq_true rfl, Nat.le_of_ble_eq_true rfl⟩ (rest := [.ref z2, .ref g]) (wl := [(g, .inr (1, [.ref (h1 0), .null]))] ++ wB cyI h1 zS) (wr := []) (c2 := 22) (s2 := 414) rfl rfl (Nat.le_of_ble_eq_true rfl) rfl rfl ⟨Nat.le_of_ble_eq_true rfl, Nat.le_of_ble_eq_true rfl⟩ dX1_init_20 23 rfl (fun rv W1 hW => ?_)
  obtain ⟨h2, rfl, hW⟩ := hW
  cases hW
  refine g_ws (ws' := [(g, .inr (1, [.ref (h1 0), .null]))] ++ (wB cyI h1 zS ++ wB cyI h2 zS)) rfl ?_
  refine g_putF C iX1 tyX1 tyX1_ok nmX1 0 rfl rfl 1 (by decide) kf16 rfl rfl hnm rfl (tyX1_ok 1 (by decide)) rfl rfl (Nat.le_of_ble_eq_true rfl) (ws' := [(g, .inr (1, [.ref (h1 0), .ref (h2 0)]))] ++ (wB cyI h1 zS ++ wB cyI h2 zS)) rfl dX1_init_23 26 rfl ?_
  refine g_Q hQ ?_
  exact g_vret C hr ⟨h1, h2, rfl⟩ (Nat.le_of_ble_eq_true rfl) (Nat.le_of_ble_eq_true rfl) dX1_init_26
