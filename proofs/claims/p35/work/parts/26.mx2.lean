/-! the machine does what the functions say (laid by wip/p35/gen) -/
abbrev rm_X2_noise : Room := { frames := 0, cells := 0, slots := 0, locals := 0 }
theorem cf_X2_noise : CF yX2_noise wsX2_noise rm_X2_noise cX2_noise 6 (some .int) 0 0 0 RX2 := ⟨⟨_, rfl⟩, rfl, rfl, rfl, by decide, by decide, by decide +kernel⟩
set_option maxHeartbeats 4000000 in
set_option maxRecDepth 100000 in
theorem m_X2_noise {l : Launch} (hfl : l.stackTraces = false) {D : va_G} {cyI cyZ cyJ : ClassId} {sc : SC} {z : Nat} {h : Nat → Nat → Nat} {u : S2} {rx : Int32} (hf : X2_noise u = some rx) : Ct (ev_s, sc) l yX2_noise wsX2_noise rm_X2_noise D (ty3 cyI cyZ cyJ) [.ref z] (wS cyI cyJ z h u) (fun o => o = .inr (some (.int rx), wS cyI cyJ z h u)) 0 0 := by
  refine ct_of (cc := cX2_noise) (nL := 6) (own := RX2) (ret := (some .int)) hfl (by decide) rfl rfl (Nat.le_of_ble_eq_true rfl) (fun p e s m args below meth c A C hr hnm => ?_)
  refine g_setQ (fun Q hQ => ?_)
  have kw0 := Cx.w C (.fieldLink RX2 15 "SleepBorderLaw$Sim" "travellers" "[[I") (by decide +kernel)
  have iX2 : ∀ w ∈ u_ws RX2 TX2 5, w ∈ wsX2_noise := by decide +kernel
  have L13 : ∀ (l3 : Int32) (n : Nat) (l1 : Int32) (l4 : Int32), X2_noise_L13 l3 u n l1 l4 = some rx → Gq p l e rm_X2_noise s m args below meth c D A 6 Q (wS cyI cyJ z h u) 0 0 13 [(1, .int l1), (2, .ref (h 0 1)), (3, .int l3), (4, .int l4)] [] := by
    intro l3 n
    induction n with
    | zero => intro l1 l4 hf; simp [X2_noise_L13] at hf
    | succ n ih =>
      intro l1 l4 hf
      rw [X2_noise_L13] at hf
      refine g_iload C dX2_noise_13 15 rfl 3 rfl ?_
      refine g_iload_n C dX2_noise_15 16 rfl 2 rfl ?_
      refine g_icmp_ge C dX2_noise_16 46 19 (by decide) rfl (fun c1 => ?_) (fun c1 => ?_)
      · have hf := ifp c1 hf
        refine g_iload_n C dX2_noise_46 47 rfl 0 rfl ?_
        refine g_Q hQ ?_
        exact g_iret C hr (by cases hf; rfl) (Nat.le_of_ble_eq_true rfl) (Nat.le_of_ble_eq_true rfl) dX2_noise_47
      · have hf := ifn c1 hf
        refine g_aload_n C dX2_noise_19 20 rfl 1 rfl ?_
        refine g_iload C dX2_noise_20 22 rfl 3 rfl ?_
        obtain ⟨_, e2, hf⟩ := bd1_s hf
        refine g_aaT C (wl := []) (cyI := cyI) 2 rfl rfl e2 dX2_noise_22 23 rfl ?_
        refine g_astore C dX2_noise_23 25 rfl (by decide) (lv' := [(5, .ref (h 2 l4.toNatClampNeg)), (1, .int l1), (2, .ref (h 0 1)), (3, .int l3), (4, .int l4)]) rfl ?_
        refine g_aload C dX2_noise_25 27 rfl 0 rfl ?_
        refine g_iconst C dX2_noise_27 28 rfl ic_4 ?_
        obtain ⟨x4, e3, hf⟩ := bd1_s hf
        refine g_rldT C (wl := []) (cyJ := cyJ) 4 0 rfl rfl ⟨by decide, by unfold vp_in; decide⟩ e3 dX2_noise_28 29 rfl ?_
        refine g_iconst C dX2_noise_29 30 rfl ic_2 ?_
        refine g_icmp_ne C dX2_noise_30 40 33 (by decide) rfl (fun c5 => ?_) (fun c5 => ?_)
        · have hf := ifn c5 hf
          refine g_iinc C dX2_noise_40 43 rfl 4 rfl (ii_1 _) (by decide) (lv' := [(4, .int (l4 + 1)), (5, .ref (h 2 l4.toNatClampNeg)), (1, .int l1), (2, .ref (h 0 1)), (3, .int l3)]) rfl ?_
          refine g_goto C dX2_noise_43 13 (by decide) ?_
          refine g_lv [2, 3, 4, 0] (lv' := [(1, .int l1), (2, .ref (h 0 1)), (3, .int l3), (4, .int (l4 + 1))]) rfl ?_
          exact ih l1 (l4 + 1) hf
        · have hf := ifp c5 hf
          refine g_iload_n C dX2_noise_33 34 rfl 1 rfl ?_
          refine g_aload C dX2_noise_34 36 rfl 0 rfl ?_
          refine g_iconst C dX2_noise_36 37 rfl ic_2 ?_
          obtain ⟨x7, e6, hf⟩ := bd1_s hf
          refine g_rldT C (wl := []) (cyJ := cyJ) 2 0 rfl rfl ⟨by decide, by unfold vp_in; decide⟩ e6 dX2_noise_37 38 rfl ?_
          refine g_iadd C dX2_noise_38 39 rfl ?_
          refine g_istore_n C dX2_noise_39 40 rfl (by decide) (lv' := [(1, .int (l1 + x7)), (5, .ref (h 2 l4.toNatClampNeg)), (2, .ref (h 0 1)), (3, .int l3), (4, .int l4)]) rfl ?_
          refine g_iinc C dX2_noise_40 43 rfl 4 rfl (ii_1 _) (by decide) (lv' := [(4, .int (l4 + 1)), (1, .int (l1 + x7)), (5, .ref (h 2 l4.toNatClampNeg)), (2, .ref (h 0 1)), (3, .int l3)]) rfl ?_
          refine g_goto C dX2_noise_43 13 (by decide) ?_
          refine g_lv [1, 3, 4, 0] (lv' := [(1, .int (l1 + x7)), (2, .ref (h 0 1)), (3, .int l3), (4, .int (l4 + 1))]) rfl ?_
          exact ih (l1 + x7) (l4 + 1) hf
  unfold X2_noise at hf
  refine g_lve (lv' := [(0, .ref z)]) rfl ?_
  refine g_iconst C dX2_noise_0 1 rfl ic_0 ?_
  refine g_istore_n C dX2_noise_1 2 rfl (by decide) (lv' := [(1, .int 0), (0, .ref z)]) rfl ?_
  refine g_aload_n C dX2_noise_2 3 rfl 1 rfl ?_
  refine g_get C iX2 0 rfl rfl 4 (by decide) kw0 rfl rfl dX2_noise_3 6 rfl ?_
  refine g_astore_n C dX2_noise_6 7 rfl (by decide) (lv' := [(2, .ref (h 0 1)), (1, .int 0), (0, .ref z)]) rfl ?_
  refine g_aload_n C dX2_noise_7 8 rfl 0 rfl ?_
  refine g_alen C 2 2 rfl rfl (v := (nI (nT u))) rfl dX2_noise_8 9 rfl ?_
  refine g_istore_n C dX2_noise_9 10 rfl (by decide) (lv' := [(3, .int (nI (nT u))), (2, .ref (h 0 1)), (1, .int 0), (0, .ref z)]) rfl ?_
  refine g_iconst C dX2_noise_10 11 rfl ic_0 ?_
  refine g_istore C dX2_noise_11 13 rfl (by decide) (lv' := [(4, .int 0), (3, .int (nI (nT u))), (2, .ref (h 0 1)), (1, .int 0), (0, .ref z)]) rfl ?_
  refine g_lv [3, 2, 1, 0] (lv' := [(1, .int 0), (2, .ref (h 0 1)), (3, .int (nI (nT u))), (4, .int 0)]) rfl ?_
  exact L13 (nI (nT u)) 200 0 0 hf
abbrev rm_X2_count : Room := { frames := 0, cells := 0, slots := 0, locals := 0 }
theorem cf_X2_count : CF yX2_count wsX2_count rm_X2_count cX2_count 7 (some .int) 1 0 0 RX2 := ⟨⟨_, rfl⟩, rfl, rfl, rfl, by decide, by decide, by decide +kernel⟩
set_option maxHeartbeats 4000000 in
set_option maxRecDepth 100000 in
theorem m_X2_count {l : Launch} (hfl : l.stackTraces = false) {D : va_G} {cyI cyZ cyJ : ClassId} {sc : SC} {z : Nat} {h : Nat → Nat → Nat} {u : S2} {a0 : Int32} {rx : Int32} (hf : X2_count u a0 = some rx) : Ct (ev_s, sc) l yX2_count wsX2_count rm_X2_count D (ty3 cyI cyZ cyJ) [.ref z, .int a0] (wS cyI cyJ z h u) (fun o => o = .inr (some (.int rx), wS cyI cyJ z h u)) 0 0 := by
  refine ct_of (cc := cX2_count) (nL := 7) (own := RX2) (ret := (some .int)) hfl (by decide) rfl rfl (Nat.le_of_ble_eq_true rfl) (fun p e s m args below meth c A C hr hnm => ?_)
  refine g_setQ (fun Q hQ => ?_)
  have kw0 := Cx.w C (.fieldLink RX2 15 "SleepBorderLaw$Sim" "travellers" "[[I") (by decide +kernel)
  have iX2 : ∀ w ∈ u_ws RX2 TX2 5, w ∈ wsX2_count := by decide +kernel
  have L14 : ∀ (l1 : Int32) (l4 : Int32) (n : Nat) (l2 : Int32) (l5 : Int32), X2_count_L14 l1 l4 u n l2 l5 = some rx → Gq p l e rm_X2_count s m args below meth c D A 7 Q (wS cyI cyJ z h u) 0 0 14 [(1, .int l1), (2, .int l2), (3, .ref (h 0 1)), (4, .int l4), (5, .int l5)] [] := by
    intro l1 l4 n
    induction n with
    | zero => intro l2 l5 hf; simp [X2_count_L14] at hf
    | succ n ih =>
      intro l2 l5 hf
      rw [X2_count_L14] at hf
      refine g_iload C dX2_count_14 16 rfl 4 rfl ?_
      refine g_iload C dX2_count_16 18 rfl 3 rfl ?_
      refine g_icmp_ge C dX2_count_18 44 21 (by decide) rfl (fun c1 => ?_) (fun c1 => ?_)
      · have hf := ifp c1 hf
        refine g_iload_n C dX2_count_44 45 rfl 1 rfl ?_
        refine g_Q hQ ?_
        exact g_iret C hr (by cases hf; rfl) (Nat.le_of_ble_eq_true rfl) (Nat.le_of_ble_eq_true rfl) dX2_count_45
      · have hf := ifn c1 hf
        refine g_aload_n C dX2_count_21 22 rfl 2 rfl ?_
        refine g_iload C dX2_count_22 24 rfl 4 rfl ?_
        obtain ⟨_, e2, hf⟩ := bd1_s hf
        refine g_aaT C (wl := []) (cyI := cyI) 2 rfl rfl e2 dX2_count_24 25 rfl ?_
        refine g_astore C dX2_count_25 27 rfl (by decide) (lv' := [(6, .ref (h 2 l5.toNatClampNeg)), (1, .int l1), (2, .int l2), (3, .ref (h 0 1)), (4, .int l4), (5, .int l5)]) rfl ?_
        refine g_aload C dX2_count_27 29 rfl 0 rfl ?_
        refine g_iconst C dX2_count_29 30 rfl ic_4 ?_
        obtain ⟨x4, e3, hf⟩ := bd1_s hf
        refine g_rldT C (wl := []) (cyJ := cyJ) 4 0 rfl rfl ⟨by decide, by unfold vp_in; decide⟩ e3 dX2_count_30 31 rfl ?_
        refine g_iload_n C dX2_count_31 32 rfl 1 rfl ?_
        refine g_icmp_ne C dX2_count_32 38 35 (by decide) rfl (fun c5 => ?_) (fun c5 => ?_)
        · have hf := ifn c5 hf
          refine g_iinc C dX2_count_38 41 rfl 5 rfl (ii_1 _) (by decide) (lv' := [(5, .int (l5 + 1)), (6, .ref (h 2 l5.toNatClampNeg)), (1, .int l1), (2, .int l2), (3, .ref (h 0 1)), (4, .int l4)]) rfl ?_
          refine g_goto C dX2_count_41 14 (by decide) ?_
          refine g_lv [2, 3, 4, 5, 0] (lv' := [(1, .int l1), (2, .int l2), (3, .ref (h 0 1)), (4, .int l4), (5, .int (l5 + 1))]) rfl ?_
          exact ih l2 (l5 + 1) hf
        · have hf := ifp c5 hf
          refine g_iinc C dX2_count_35 38 rfl 2 rfl (ii_1 _) (by decide) (lv' := [(2, .int (l2 + 1)), (6, .ref (h 2 l5.toNatClampNeg)), (1, .int l1), (3, .ref (h 0 1)), (4, .int l4), (5, .int l5)]) rfl ?_
          refine g_iinc C dX2_count_38 41 rfl 5 rfl (ii_1 _) (by decide) (lv' := [(5, .int (l5 + 1)), (2, .int (l2 + 1)), (6, .ref (h 2 l5.toNatClampNeg)), (1, .int l1), (3, .ref (h 0 1)), (4, .int l4)]) rfl ?_
          refine g_goto C dX2_count_41 14 (by decide) ?_
          refine g_lv [3, 1, 4, 5, 0] (lv' := [(1, .int l1), (2, .int (l2 + 1)), (3, .ref (h 0 1)), (4, .int l4), (5, .int (l5 + 1))]) rfl ?_
          exact ih (l2 + 1) (l5 + 1) hf
  unfold X2_count at hf
  refine g_lve (lv' := [(0, .ref z), (1, .int a0)]) rfl ?_
  refine g_iconst C dX2_count_0 1 rfl ic_0 ?_
  refine g_istore_n C dX2_count_1 2 rfl (by decide) (lv' := [(2, .int 0), (0, .ref z), (1, .int a0)]) rfl ?_
  refine g_aload_n C dX2_count_2 3 rfl 1 rfl ?_
  refine g_get C iX2 0 rfl rfl 4 (by decide) kw0 rfl rfl dX2_count_3 6 rfl ?_
  refine g_astore_n C dX2_count_6 7 rfl (by decide) (lv' := [(3, .ref (h 0 1)), (2, .int 0), (0, .ref z), (1, .int a0)]) rfl ?_
  refine g_aload_n C dX2_count_7 8 rfl 0 rfl ?_
  refine g_alen C 2 2 rfl rfl (v := (nI (nT u))) rfl dX2_count_8 9 rfl ?_
  refine g_istore C dX2_count_9 11 rfl (by decide) (lv' := [(4, .int (nI (nT u))), (3, .ref (h 0 1)), (2, .int 0), (0, .ref z), (1, .int a0)]) rfl ?_
  refine g_iconst C dX2_count_11 12 rfl ic_0 ?_
  refine g_istore C dX2_count_12 14 rfl (by decide) (lv' := [(5, .int 0), (4, .int (nI (nT u))), (3, .ref (h 0 1)), (2, .int 0), (0, .ref z), (1, .int a0)]) rfl ?_
  refine g_lv [5, 3, 2, 1, 0] (lv' := [(1, .int a0), (2, .int 0), (3, .ref (h 0 1)), (4, .int (nI (nT u))), (5, .int 0)]) rfl ?_
  exact L14 a0 (nI (nT u)) 200 0 0 hf
abbrev rm_X2_hidden : Room := { frames := 0, cells := 0, slots := 0, locals := 0 }
theorem cf_X2_hidden : CF yX2_hidden wsX2_hidden rm_X2_hidden cX2_hidden 1 (some .int) 1 0 0 RX2 := ⟨⟨_, rfl⟩, rfl, rfl, rfl, by decide, by decide, by decide +kernel⟩
set_option maxHeartbeats 4000000 in
set_option maxRecDepth 100000 in
theorem m_X2_hidden {l : Launch} (hfl : l.stackTraces = false) {D : va_G} {cyI cyZ cyJ : ClassId} {sc : SC} {z : Nat} {h : Nat → Nat → Nat} {u : S2} {a0 : Nat} {rx : Int32} (hf : X2_hidden u a0 = some rx) : Ct (ev_s, sc) l yX2_hidden wsX2_hidden rm_X2_hidden D (ty3 cyI cyZ cyJ) [.ref (h 2 a0)] (wS cyI cyJ z h u) (fun o => o = .inr (some (.int rx), wS cyI cyJ z h u)) 0 0 := by
  refine ct_of (cc := cX2_hidden) (nL := 1) (own := RX2) (ret := (some .int)) hfl (by decide) rfl rfl (Nat.le_of_ble_eq_true rfl) (fun p e s m args below meth c A C hr hnm => ?_)
  refine g_setQ (fun Q hQ => ?_)
  unfold X2_hidden at hf
  refine g_lve (lv' := [(0, .ref (h 2 a0))]) rfl ?_
  refine g_aload_n C dX2_hidden_0 1 rfl 0 rfl ?_
  refine g_iconst C dX2_hidden_1 2 rfl ic_0 ?_
  obtain ⟨x2, e1, hf⟩ := bd1_s hf
  refine g_rldT C (wl := []) (cyJ := cyJ) 0 0 rfl rfl ⟨by decide, by unfold vp_in; decide⟩ e1 dX2_hidden_2 3 rfl ?_
  refine g_aload_n C dX2_hidden_3 4 rfl 0 rfl ?_
  refine g_iconst C dX2_hidden_4 5 rfl ic_1 ?_
  obtain ⟨x4, e3, hf⟩ := bd1_s hf
  refine g_rldT C (wl := []) (cyJ := cyJ) 1 0 rfl rfl ⟨by decide, by unfold vp_in; decide⟩ e3 dX2_hidden_5 6 rfl ?_
  refine g_icmp_le C dX2_hidden_6 19 9 (by decide) rfl (fun c5 => ?_) (fun c5 => ?_)
  · have hf := ifp c5 hf
    refine g_iconst C dX2_hidden_19 20 rfl ic_0 ?_
    refine g_Q hQ ?_
    exact g_iret C hr (by cases hf; rfl) (Nat.le_of_ble_eq_true rfl) (Nat.le_of_ble_eq_true rfl) dX2_hidden_20
  · have hf := ifn c5 hf
    refine g_aload_n C dX2_hidden_9 10 rfl 0 rfl ?_
    refine g_iconst C dX2_hidden_10 11 rfl ic_0 ?_
    obtain ⟨x7, e6, hf⟩ := bd1_s hf
    refine g_rldT C (wl := []) (cyJ := cyJ) 0 0 rfl rfl ⟨by decide, by unfold vp_in; decide⟩ e6 dX2_hidden_11 12 rfl ?_
    refine g_aload_n C dX2_hidden_12 13 rfl 0 rfl ?_
    refine g_iconst C dX2_hidden_13 14 rfl ic_1 ?_
    obtain ⟨x9, e8, hf⟩ := bd1_s hf
    refine g_rldT C (wl := []) (cyJ := cyJ) 1 0 rfl rfl ⟨by decide, by unfold vp_in; decide⟩ e8 dX2_hidden_14 15 rfl ?_
    refine g_isub C dX2_hidden_15 16 rfl ?_
    refine g_goto C dX2_hidden_16 20 (by decide) ?_
    refine g_Q hQ ?_
    exact g_iret C hr (by cases hf; rfl) (Nat.le_of_ble_eq_true rfl) (Nat.le_of_ble_eq_true rfl) dX2_hidden_20
abbrev rm_X2_next : Room := { frames := 0, cells := 0, slots := 0, locals := 0 }
theorem cf_X2_next : CF yX2_next wsX2_next rm_X2_next cX2_next 2 (some .int) 0 0 0 RX2 := ⟨⟨_, rfl⟩, rfl, rfl, rfl, by decide, by decide, by decide +kernel⟩
set_option maxHeartbeats 4000000 in
set_option maxRecDepth 100000 in
theorem m_X2_next {l : Launch} (hfl : l.stackTraces = false) {D : va_G} {cyI cyZ cyJ : ClassId} {sc : SC} {z : Nat} {h : Nat → Nat → Nat} {u : S2} {rx : Int32} (hf : X2_next u = some rx) : Ct (ev_s, sc) l yX2_next wsX2_next rm_X2_next D (ty3 cyI cyZ cyJ) [.ref z] (wS cyI cyJ z h u) (fun o => o = .inr (some (.int rx), wS cyI cyJ z h u)) 0 0 := by
  refine ct_of (cc := cX2_next) (nL := 2) (own := RX2) (ret := (some .int)) hfl (by decide) rfl rfl (Nat.le_of_ble_eq_true rfl) (fun p e s m args below meth c A C hr hnm => ?_)
  refine g_setQ (fun Q hQ => ?_)
  have kw0 := Cx.w C (.fieldLink RX2 15 "SleepBorderLaw$Sim" "travellers" "[[I") (by decide +kernel)
  have iX2 : ∀ w ∈ u_ws RX2 TX2 5, w ∈ wsX2_next := by decide +kernel
  have L2 : ∀ (n : Nat) (l1 : Int32), X2_next_L2 u n l1 = some rx → Gq p l e rm_X2_next s m args below meth c D A 2 Q (wS cyI cyJ z h u) 0 0 2 [(0, .ref z), (1, .int l1)] [] := by
    intro n
    induction n with
    | zero => intro l1 hf; simp [X2_next_L2] at hf
    | succ n ih =>
      intro l1 hf
      rw [X2_next_L2] at hf
      refine g_iload_n C dX2_next_2 3 rfl 1 rfl ?_
      refine g_aload_n C dX2_next_3 4 rfl 0 rfl ?_
      refine g_get C iX2 0 rfl rfl 4 (by decide) kw0 rfl rfl dX2_next_4 7 rfl ?_
      refine g_alen C 2 2 rfl rfl (v := (nI (nT u))) rfl dX2_next_7 8 rfl ?_
      refine g_icmp_ge C dX2_next_8 28 11 (by decide) rfl (fun c1 => ?_) (fun c1 => ?_)
      · have hf := ifp c1 hf
        refine g_iload_n C dX2_next_28 29 rfl 1 rfl ?_
        refine g_aload_n C dX2_next_29 30 rfl 0 rfl ?_
        refine g_get C iX2 0 rfl rfl 4 (by decide) kw0 rfl rfl dX2_next_30 33 rfl ?_
        refine g_alen C 2 2 rfl rfl (v := (nI (nT u))) rfl dX2_next_33 34 rfl ?_
        refine g_icmp_ne C dX2_next_34 41 37 (by decide) rfl (fun c2 => ?_) (fun c2 => ?_)
        · have hf := ifn c2 hf
          refine g_iload_n C dX2_next_41 42 rfl 1 rfl ?_
          refine g_Q hQ ?_
          exact g_iret C hr (by cases hf; rfl) (Nat.le_of_ble_eq_true rfl) (Nat.le_of_ble_eq_true rfl) dX2_next_42
        · have hf := ifp c2 hf
          refine g_iconst C dX2_next_37 38 rfl ic_m1 ?_
          refine g_goto C dX2_next_38 42 (by decide) ?_
          refine g_Q hQ ?_
          exact g_iret C hr (by cases hf; rfl) (Nat.le_of_ble_eq_true rfl) (Nat.le_of_ble_eq_true rfl) dX2_next_42
      · have hf := ifn c1 hf
        refine g_aload_n C dX2_next_11 12 rfl 0 rfl ?_
        refine g_get C iX2 0 rfl rfl 4 (by decide) kw0 rfl rfl dX2_next_12 15 rfl ?_
        refine g_iload_n C dX2_next_15 16 rfl 1 rfl ?_
        obtain ⟨_, e3, hf⟩ := bd1_s hf
        refine g_aaT C (wl := []) (cyI := cyI) 2 rfl rfl e3 dX2_next_16 17 rfl ?_
        refine g_iconst C dX2_next_17 18 rfl ic_4 ?_
        obtain ⟨x5, e4, hf⟩ := bd1_s hf
        refine g_rldT C (wl := []) (cyJ := cyJ) 4 0 rfl rfl ⟨by decide, by unfold vp_in; decide⟩ e4 dX2_next_18 19 rfl ?_
        refine g_if_eq C dX2_next_19 28 22 (by decide) rfl (fun c6 => ?_) (fun c6 => ?_)
        · have hf := ifp c6 hf
          refine g_iload_n C dX2_next_28 29 rfl 1 rfl ?_
          refine g_aload_n C dX2_next_29 30 rfl 0 rfl ?_
          refine g_get C iX2 0 rfl rfl 4 (by decide) kw0 rfl rfl dX2_next_30 33 rfl ?_
          refine g_alen C 2 2 rfl rfl (v := (nI (nT u))) rfl dX2_next_33 34 rfl ?_
          refine g_icmp_ne C dX2_next_34 41 37 (by decide) rfl (fun c7 => ?_) (fun c7 => ?_)
          · have hf := ifn c7 hf
            refine g_iload_n C dX2_next_41 42 rfl 1 rfl ?_
            refine g_Q hQ ?_
            exact g_iret C hr (by cases hf; rfl) (Nat.le_of_ble_eq_true rfl) (Nat.le_of_ble_eq_true rfl) dX2_next_42
          · have hf := ifp c7 hf
            refine g_iconst C dX2_next_37 38 rfl ic_m1 ?_
            refine g_goto C dX2_next_38 42 (by decide) ?_
            refine g_Q hQ ?_
            exact g_iret C hr (by cases hf; rfl) (Nat.le_of_ble_eq_true rfl) (Nat.le_of_ble_eq_true rfl) dX2_next_42
        · have hf := ifn c6 hf
          refine g_iinc C dX2_next_22 25 rfl 1 rfl (ii_1 _) (by decide) (lv' := [(1, .int (l1 + 1)), (0, .ref z)]) rfl ?_
          refine g_goto C dX2_next_25 2 (by decide) ?_
          refine g_lv [1, 0] (lv' := [(0, .ref z), (1, .int (l1 + 1))]) rfl ?_
          exact ih (l1 + 1) hf
  unfold X2_next at hf
  refine g_lve (lv' := [(0, .ref z)]) rfl ?_
  refine g_iconst C dX2_next_0 1 rfl ic_0 ?_
  refine g_istore_n C dX2_next_1 2 rfl (by decide) (lv' := [(1, .int 0), (0, .ref z)]) rfl ?_
  refine g_lv [1, 0] (lv' := [(0, .ref z), (1, .int 0)]) rfl ?_
  exact L2 200 0 hf
abbrev rm_X2_finds : Room := { frames := 0, cells := 0, slots := 0, locals := 0 }
theorem cf_X2_finds : CF yX2_finds wsX2_finds rm_X2_finds cX2_finds 2 (some .boolean) 2 0 0 RX2 := ⟨⟨_, rfl⟩, rfl, rfl, rfl, by decide, by decide, by decide +kernel⟩
set_option maxHeartbeats 4000000 in
set_option maxRecDepth 100000 in
theorem m_X2_finds {l : Launch} (hfl : l.stackTraces = false) {D : va_G} {cyI cyZ cyJ : ClassId} {sc : SC} {z : Nat} {h : Nat → Nat → Nat} {u : S2} {a0 : Nat} {a1 : Nat} {rx : Int32} (hf : X2_finds u a0 a1 = some rx) : Ct (ev_s, sc) l yX2_finds wsX2_finds rm_X2_finds D (ty3 cyI cyZ cyJ) [.ref (h 1 a0), .ref (h 2 a1)] (wS cyI cyJ z h u) (fun o => o = .inr (some (.int rx), wS cyI cyJ z h u)) 0 0 := by
  refine ct_of (cc := cX2_finds) (nL := 2) (own := RX2) (ret := (some .boolean)) hfl (by decide) rfl rfl (Nat.le_of_ble_eq_true rfl) (fun p e s m args below meth c A C hr hnm => ?_)
  refine g_setQ (fun Q hQ => ?_)
  unfold X2_finds at hf
  refine g_lve (lv' := [(0, .ref (h 1 a0)), (1, .ref (h 2 a1))]) rfl ?_
  refine g_aload_n C dX2_finds_0 1 rfl 1 rfl ?_
  refine g_iconst C dX2_finds_1 2 rfl ic_0 ?_
  obtain ⟨x2, e1, hf⟩ := bd1_s hf
  refine g_rldT C (wl := []) (cyJ := cyJ) 0 0 rfl rfl ⟨by decide, by unfold vp_in; decide⟩ e1 dX2_finds_2 3 rfl ?_
  refine g_aload_n C dX2_finds_3 4 rfl 1 rfl ?_
  refine g_iconst C dX2_finds_4 5 rfl ic_1 ?_
  obtain ⟨x4, e3, hf⟩ := bd1_s hf
  refine g_rldT C (wl := []) (cyJ := cyJ) 1 0 rfl rfl ⟨by decide, by unfold vp_in; decide⟩ e3 dX2_finds_5 6 rfl ?_
  refine g_icmp_le C dX2_finds_6 29 9 (by decide) rfl (fun c5 => ?_) (fun c5 => ?_)
  · have hf := ifp c5 hf
    refine g_iconst C dX2_finds_29 30 rfl ic_0 ?_
    refine g_Q hQ ?_
    exact g_zret C hr (Or.inl rfl) (by cases hf; rfl) (Nat.le_of_ble_eq_true rfl) (Nat.le_of_ble_eq_true rfl) dX2_finds_30
  · have hf := ifn c5 hf
    refine g_aload_n C dX2_finds_9 10 rfl 1 rfl ?_
    refine g_iconst C dX2_finds_10 11 rfl ic_0 ?_
    obtain ⟨x7, e6, hf⟩ := bd1_s hf
    refine g_rldT C (wl := []) (cyJ := cyJ) 0 0 rfl rfl ⟨by decide, by unfold vp_in; decide⟩ e6 dX2_finds_11 12 rfl ?_
    refine g_aload_n C dX2_finds_12 13 rfl 1 rfl ?_
    refine g_iconst C dX2_finds_13 14 rfl ic_1 ?_
    obtain ⟨x9, e8, hf⟩ := bd1_s hf
    refine g_rldT C (wl := []) (cyJ := cyJ) 1 0 rfl rfl ⟨by decide, by unfold vp_in; decide⟩ e8 dX2_finds_14 15 rfl ?_
    refine g_isub C dX2_finds_15 16 rfl ?_
    refine g_aload_n C dX2_finds_16 17 rfl 0 rfl ?_
    refine g_iconst C dX2_finds_17 18 rfl ic_0 ?_
    obtain ⟨x11, e10, hf⟩ := bd1_s hf
    refine g_rldG C (wl := []) (cyJ := cyJ) 0 0 rfl rfl ⟨by decide, by unfold vp_in; decide⟩ e10 dX2_finds_18 19 rfl ?_
    refine g_iadd C dX2_finds_19 20 rfl ?_
    refine g_bipush C dX2_finds_20 22 rfl bp_9 ?_
    refine g_icmp_le C dX2_finds_22 29 25 (by decide) rfl (fun c12 => ?_) (fun c12 => ?_)
    · have hf := ifp c12 hf
      refine g_iconst C dX2_finds_29 30 rfl ic_0 ?_
      refine g_Q hQ ?_
      exact g_zret C hr (Or.inl rfl) (by cases hf; rfl) (Nat.le_of_ble_eq_true rfl) (Nat.le_of_ble_eq_true rfl) dX2_finds_30
    · have hf := ifn c12 hf
      refine g_iconst C dX2_finds_25 26 rfl ic_1 ?_
      refine g_goto C dX2_finds_26 30 (by decide) ?_
      refine g_Q hQ ?_
      exact g_zret C hr (Or.inr rfl) (by cases hf; rfl) (Nat.le_of_ble_eq_true rfl) (Nat.le_of_ble_eq_true rfl) dX2_finds_30
abbrev rm_X2_pass : Room := { frames := 1, cells := 1, slots := 8, locals := 25 }
theorem cf_X2_pass : CF yX2_pass wsX2_pass rm_X2_pass cX2_pass 6 none 0 1 8 RX2 := ⟨⟨_, rfl⟩, rfl, rfl, rfl, by decide, by decide, by decide +kernel⟩
set_option maxHeartbeats 4000000 in
set_option maxRecDepth 100000 in
theorem m_X2_pass {l : Launch} (hfl : l.stackTraces = false) {D : va_G} {cyI cyZ cyJ : ClassId} {sc : SC} {z : Nat} {h : Nat → Nat → Nat} {u : S2} {ru : S2} (hf : X2_pass u = some ru) : Ct (ev_s, sc) l yX2_pass wsX2_pass rm_X2_pass D (ty3 cyI cyZ cyJ) [.ref z] (wS cyI cyJ z h u) (fun o => o = .inr (none, wS cyI cyJ z h ru)) 1 8 := by
  refine ct_of (cc := cX2_pass) (nL := 6) (own := RX2) (ret := none) hfl (by decide) rfl rfl (Nat.le_of_ble_eq_true rfl) (fun p e s m args below meth c A C hr hnm => ?_)
  refine g_setQ (fun Q hQ => ?_)
  have kw0 := Cx.w C (.fieldLink RX2 9 "SleepBorderLaw$Sim" "guards" "[[I") (by decide +kernel)
  have iX2 : ∀ w ∈ u_ws RX2 TX2 5, w ∈ wsX2_pass := by decide +kernel
  have kw2 := Cx.w C (.arrayClass .boolean) (by decide +kernel)
  have kw3 := Cx.w C (.fieldLink RX2 15 "SleepBorderLaw$Sim" "travellers" "[[I") (by decide +kernel)
  have kw4 := Cx.w C (.fieldLink RX2 40 "SleepBorderLaw$Sim" "minute" "I") (by decide +kernel)
  have kw5 := Cx.w C (.fieldLink RX2 33 "SleepBorderLaw$Sim" "paid" "I") (by decide +kernel)
  have kw6 := Cx.w C (.fieldLink RX2 18 "SleepBorderLaw$Sim" "expired" "I") (by decide +kernel)
  have L143 : ∀ (n2 : Nat) (f3 : Nat → Int32) (z1 : Nat) (n : Nat) (l2 : Int32) (u : S2) (cells slots : Nat), cells + n * 0 + 0 ≤ 1 → slots + n * 0 + 0 ≤ 8 → X2_pass_L143 n2 f3 n l2 u = some ru → Gq p l e rm_X2_pass s m args below meth c D A 6 Q (wA cyZ z1 n2 f3 ++ wS cyI cyJ z h u) cells slots 143 [(0, .ref z), (1, .ref z1), (2, .int l2)] [] := by
    intro n2 f3 z1 n
    induction n with
    | zero => intro l2 u cells slots hc1 hc2 hf; simp [X2_pass_L143] at hf
    | succ n ih =>
      intro l2 u cells slots hc1 hc2 hf
      rw [X2_pass_L143] at hf
      refine g_iload_n C dX2_pass_143 144 rfl 2 rfl ?_
      refine g_aload_n C dX2_pass_144 145 rfl 0 rfl ?_
      refine g_get C iX2 1 rfl rfl 3 (by decide) kw0 rfl rfl dX2_pass_145 148 rfl ?_
      refine g_alen C 2 2 rfl rfl (v := (nI (nG u))) rfl dX2_pass_148 149 rfl ?_
      refine g_icmp_ge C dX2_pass_149 325 152 (by decide) rfl (fun c7 => ?_) (fun c7 => ?_)
      · have hf := ifp c7 hf
        refine g_aload_n C dX2_pass_325 326 rfl 0 rfl ?_
        refine g_dup C dX2_pass_326 327 rfl rfl ?_
        refine g_get C iX2 1 rfl rfl 0 (by decide) kw4 rfl rfl dX2_pass_327 330 rfl ?_
        refine g_iconst C dX2_pass_330 331 rfl ic_1 ?_
        refine g_iadd C dX2_pass_331 332 rfl ?_
        obtain ⟨u_9, e8, hf⟩ := bd1_s hf
        refine g_put C iX2 tyX2 tyX2_ok nmX2 1 rfl rfl 0 (by decide) kw4 rfl rfl rfl (Nat.le_of_ble_eq_true rfl) (rS_put (cyI := cyI) (cyJ := cyJ) (wl := wA cyZ z1 n2 f3) (h := h) (k := 0) (by decide) e8) dX2_pass_332 335 rfl ?_
        refine g_perm (ws' := wS cyI cyJ z h u_9 ++ wA cyZ z1 n2 f3) (wl := []) (w1 := wA cyZ z1 n2 f3) (w2 := wS cyI cyJ z h u_9) rfl rfl ?_
        refine g_left (ws' := wS cyI cyJ z h u_9) (wr := wA cyZ z1 n2 f3) rfl ?_
        refine g_Q hQ ?_
        exact g_vret C hr (by cases hf; rfl) (by omega) (by omega) dX2_pass_335
      · have hf := ifn c7 hf
        refine g_aload_n C dX2_pass_152 153 rfl 0 rfl ?_
        refine g_get C iX2 1 rfl rfl 3 (by decide) kw0 rfl rfl dX2_pass_153 156 rfl ?_
        refine g_iload_n C dX2_pass_156 157 rfl 2 rfl ?_
        obtain ⟨_, e10, hf⟩ := bd1_s hf
        refine g_aaG C (wl := wA cyZ z1 n2 f3) (cyI := cyI) 2 rfl rfl e10 dX2_pass_157 158 rfl ?_
        refine g_astore_n C dX2_pass_158 159 rfl (by decide) (lv' := [(3, .ref (h 1 l2.toNatClampNeg)), (0, .ref z), (1, .ref z1), (2, .int l2)]) rfl ?_
        refine g_aload_n C dX2_pass_159 160 rfl 2 rfl ?_
        refine g_iload_n C dX2_pass_160 161 rfl 3 rfl ?_
        obtain ⟨x12, e11, hf⟩ := bd1_s hf
        refine g_zald C 0 1 rfl rfl e11 dX2_pass_161 162 rfl ?_
        refine g_if_eq C dX2_pass_162 233 165 (by decide) rfl (fun c13 => ?_) (fun c13 => ?_)
        · have hf := ifp c13 hf
          refine g_aload_n C dX2_pass_233 234 rfl 0 rfl ?_
          refine g_iconst C dX2_pass_234 235 rfl ic_2 ?_
          refine g_dup2 C dX2_pass_235 236 rfl rfl rfl ?_
          obtain ⟨x15, e14, hf⟩ := bd1_s hf
          refine g_rldG C (wl := wA cyZ z1 n2 f3) (cyJ := cyJ) 2 0 rfl rfl ⟨by decide, by unfold vp_in; decide⟩ e14 dX2_pass_236 237 rfl ?_
          refine g_iconst C dX2_pass_237 238 rfl ic_1 ?_
          refine g_isub C dX2_pass_238 239 rfl ?_
          obtain ⟨u_17, e16, hf⟩ := bd1_s hf
          refine g_rstG C (wl := wA cyZ z1 n2 f3) (cyJ := cyJ) 2 0 rfl rfl ⟨by decide, by unfold vp_in; decide⟩ e16 dX2_pass_239 240 rfl ?_
          refine g_aload_n C dX2_pass_240 241 rfl 0 rfl ?_
          refine g_iconst C dX2_pass_241 242 rfl ic_2 ?_
          obtain ⟨x19, e18, hf⟩ := bd1_s hf
          refine g_rldG C (wl := wA cyZ z1 n2 f3) (cyJ := cyJ) 2 0 rfl rfl ⟨by decide, by unfold vp_in; decide⟩ e18 dX2_pass_242 243 rfl ?_
          refine g_if_le C dX2_pass_243 249 246 (by decide) rfl (fun c20 => ?_) (fun c20 => ?_)
          · have hf := ifp c20 hf
            refine g_aload_n C dX2_pass_249 250 rfl 1 rfl ?_
            refine g_get C iX2 1 rfl rfl 4 (by decide) kw3 rfl rfl dX2_pass_250 253 rfl ?_
            refine g_aload_n C dX2_pass_253 254 rfl 0 rfl ?_
            refine g_iconst C dX2_pass_254 255 rfl ic_1 ?_
            obtain ⟨x22, e21, hf⟩ := bd1_s hf
            refine g_rldG C (wl := wA cyZ z1 n2 f3) (cyJ := cyJ) 1 0 rfl rfl ⟨by decide, by unfold vp_in; decide⟩ e21 dX2_pass_255 256 rfl ?_
            obtain ⟨_, e23, hf⟩ := bd1_s hf
            refine g_aaT C (wl := wA cyZ z1 n2 f3) (cyI := cyI) 2 rfl rfl e23 dX2_pass_256 257 rfl ?_
            refine g_astore C dX2_pass_257 259 rfl (by decide) (lv' := [(4, .ref (h 2 x22.toNatClampNeg)), (3, .ref (h 1 l2.toNatClampNeg)), (0, .ref z), (1, .ref z1), (2, .int l2)]) rfl ?_
            refine g_aload_n C dX2_pass_259 260 rfl 1 rfl ?_
            refine g_aload C dX2_pass_260 262 rfl 0 rfl ?_
            obtain ⟨x24, e25, hf⟩ := bd1_s hf
            refine g_callS1 C (m_X2_finds hfl (z := z) (h := h) e25) cf_X2_finds gX2_pass_X2_finds ⟨Nat.le_of_ble_eq_true rfl, Nat.le_of_ble_eq_true rfl⟩ (As := [.ref (h 1 l2.toNatClampNeg), .ref (h 2 x22.toNatClampNeg)]) (rest := []) (wl := wA cyZ z1 n2 f3) (wr := []) (c2 := cells) (s2 := slots) (by rw [List.append_nil] <;> rfl) rfl rfl (Nat.le_of_ble_eq_true rfl) rfl rfl ⟨(by show _ ≤ 1; omega), (by show _ ≤ 8; omega)⟩ dX2_pass_262 265 rfl (ws2 := wA cyZ z1 n2 f3 ++ wS cyI cyJ z h u_17) (by rw [List.append_nil] <;> rfl) (st2 := [.int x24]) rfl ?_
            refine jo1_s (P := fun (j27 : S2) => Gq p l e rm_X2_pass s m args below meth c D A 6 Q (wA cyZ z1 n2 f3 ++ wS cyI cyJ z h j27) cells slots 302 [(0, .ref z), (1, .ref z1), (2, .int l2), (3, .ref (h 1 l2.toNatClampNeg))] []) hf (fun j27 hf => ?_) (fun K26 hK26 hf => ?_)
            · refine g_aload_n C dX2_pass_302 303 rfl 3 rfl ?_
              refine g_iconst C dX2_pass_303 304 rfl ic_1 ?_
              refine g_iconst C dX2_pass_304 305 rfl ic_m1 ?_
              obtain ⟨u_29, e28, hf⟩ := bd1_s hf
              refine g_rstG C (wl := wA cyZ z1 n2 f3) (cyJ := cyJ) 1 0 rfl rfl ⟨by decide, by unfold vp_in; decide⟩ e28 dX2_pass_305 306 rfl ?_
              refine g_aload_n C dX2_pass_306 307 rfl 3 rfl ?_
              refine g_iconst C dX2_pass_307 308 rfl ic_0 ?_
              obtain ⟨x31, e30, hf⟩ := bd1_s hf
              refine g_rldG C (wl := wA cyZ z1 n2 f3) (cyJ := cyJ) 0 0 rfl rfl ⟨by decide, by unfold vp_in; decide⟩ e30 dX2_pass_308 309 rfl ?_
              refine g_if_le C dX2_pass_309 319 312 (by decide) rfl (fun c32 => ?_) (fun c32 => ?_)
              · have hf := ifp c32 hf
                refine g_iinc C dX2_pass_319 322 rfl 2 rfl (ii_1 _) (by decide) (lv' := [(2, .int (l2 + 1)), (0, .ref z), (1, .ref z1), (3, .ref (h 1 l2.toNatClampNeg))]) rfl ?_
                refine g_goto C dX2_pass_322 143 (by decide) ?_
                refine g_lv [1, 2, 0] (lv' := [(0, .ref z), (1, .ref z1), (2, .int (l2 + 1))]) rfl ?_
                exact ih (l2 + 1) u_29 cells slots (by omega) (by omega) hf
              · have hf := ifn c32 hf
                refine g_aload_n C dX2_pass_312 313 rfl 3 rfl ?_
                refine g_iconst C dX2_pass_313 314 rfl ic_0 ?_
                refine g_dup2 C dX2_pass_314 315 rfl rfl rfl ?_
                obtain ⟨x34, e33, hf⟩ := bd1_s hf
                refine g_rldG C (wl := wA cyZ z1 n2 f3) (cyJ := cyJ) 0 0 rfl rfl ⟨by decide, by unfold vp_in; decide⟩ e33 dX2_pass_315 316 rfl ?_
                refine g_iconst C dX2_pass_316 317 rfl ic_1 ?_
                refine g_isub C dX2_pass_317 318 rfl ?_
                obtain ⟨u_36, e35, hf⟩ := bd1_s hf
                refine g_rstG C (wl := wA cyZ z1 n2 f3) (cyJ := cyJ) 0 0 rfl rfl ⟨by decide, by unfold vp_in; decide⟩ e35 dX2_pass_318 319 rfl ?_
                refine g_iinc C dX2_pass_319 322 rfl 2 rfl (ii_1 _) (by decide) (lv' := [(2, .int (l2 + 1)), (0, .ref z), (1, .ref z1), (3, .ref (h 1 l2.toNatClampNeg))]) rfl ?_
                refine g_goto C dX2_pass_322 143 (by decide) ?_
                refine g_lv [1, 2, 0] (lv' := [(0, .ref z), (1, .ref z1), (2, .int (l2 + 1))]) rfl ?_
                exact ih (l2 + 1) u_36 cells slots (by omega) (by omega) hf
            · refine g_if_eq C dX2_pass_265 292 268 (by decide) rfl (fun c37 => ?_) (fun c37 => ?_)
              · have hf := ifp c37 hf
                refine g_aload C dX2_pass_292 294 rfl 0 rfl ?_
                refine g_iconst C dX2_pass_294 295 rfl ic_4 ?_
                refine g_iconst C dX2_pass_295 296 rfl ic_2 ?_
                obtain ⟨u_39, e38, hf⟩ := bd1_s hf
                refine g_rstT C (wl := wA cyZ z1 n2 f3) (cyJ := cyJ) 4 0 rfl rfl ⟨by decide, by unfold vp_in; decide⟩ e38 dX2_pass_296 297 rfl ?_
                refine g_aload C dX2_pass_297 299 rfl 0 rfl ?_
                refine g_iconst C dX2_pass_299 300 rfl ic_5 ?_
                refine g_iconst C dX2_pass_300 301 rfl ic_5 ?_
                obtain ⟨u_41, e40, hf⟩ := bd1_s hf
                refine g_rstT C (wl := wA cyZ z1 n2 f3) (cyJ := cyJ) 5 0 rfl rfl ⟨by decide, by unfold vp_in; decide⟩ e40 dX2_pass_301 302 rfl ?_
                refine g_lv [2, 3, 4, 1] (lv' := [(0, .ref z), (1, .ref z1), (2, .int l2), (3, .ref (h 1 l2.toNatClampNeg))]) rfl ?_
                exact hK26 u_41 hf
              · have hf := ifn c37 hf
                refine g_aload_n C dX2_pass_268 269 rfl 2 rfl ?_
                refine g_dup C dX2_pass_269 270 rfl rfl ?_
                refine g_get C iX2 1 rfl rfl 2 (by decide) kw5 rfl rfl dX2_pass_270 273 rfl ?_
                refine g_iconst C dX2_pass_273 274 rfl ic_3 ?_
                refine g_aload C dX2_pass_274 276 rfl 0 rfl ?_
                obtain ⟨x42, e43, hf⟩ := bd1_s hf
                refine g_callS1 C (m_X2_hidden hfl (z := z) (h := h) e43) cf_X2_hidden gX2_pass_X2_hidden ⟨Nat.le_of_ble_eq_true rfl, Nat.le_of_ble_eq_true rfl⟩ (As := [.ref (h 2 x22.toNatClampNeg)]) (rest := [.int 3, .int (u_17 0 2), .ref z]) (wl := wA cyZ z1 n2 f3) (wr := []) (c2 := cells) (s2 := slots) (by rw [List.append_nil] <;> rfl) rfl rfl (Nat.le_of_ble_eq_true rfl) rfl rfl ⟨(by show _ ≤ 1; omega), (by show _ ≤ 8; omega)⟩ dX2_pass_276 279 rfl (ws2 := wA cyZ z1 n2 f3 ++ wS cyI cyJ z h u_17) (by rw [List.append_nil] <;> rfl) (st2 := [.int x42, .int 3, .int (u_17 0 2), .ref z]) rfl ?_
                refine g_imul C dX2_pass_279 280 rfl ?_
                refine g_iadd C dX2_pass_280 281 rfl ?_
                obtain ⟨u_45, e44, hf⟩ := bd1_s hf
                refine g_put C iX2 tyX2 tyX2_ok nmX2 1 rfl rfl 2 (by decide) kw5 rfl rfl rfl (Nat.le_of_ble_eq_true rfl) (rS_put (cyI := cyI) (cyJ := cyJ) (wl := wA cyZ z1 n2 f3) (h := h) (k := 2) (by decide) e44) dX2_pass_281 284 rfl ?_
                refine g_aload C dX2_pass_284 286 rfl 0 rfl ?_
                refine g_iconst C dX2_pass_286 287 rfl ic_4 ?_
                refine g_iconst C dX2_pass_287 288 rfl ic_4 ?_
                obtain ⟨u_47, e46, hf⟩ := bd1_s hf
                refine g_rstT C (wl := wA cyZ z1 n2 f3) (cyJ := cyJ) 4 0 rfl rfl ⟨by decide, by unfold vp_in; decide⟩ e46 dX2_pass_288 289 rfl ?_
                refine g_goto C dX2_pass_289 302 (by decide) ?_
                refine g_lv [2, 3, 4, 1] (lv' := [(0, .ref z), (1, .ref z1), (2, .int l2), (3, .ref (h 1 l2.toNatClampNeg))]) rfl ?_
                exact hK26 u_47 hf
          · have hf := ifn c20 hf
            refine g_goto C dX2_pass_246 319 (by decide) ?_
            refine g_iinc C dX2_pass_319 322 rfl 3 rfl (ii_1 _) (by decide) (lv' := [(2, .int (l2 + 1)), (3, .ref (h 1 l2.toNatClampNeg)), (0, .ref z), (1, .ref z1)]) rfl ?_
            refine g_goto C dX2_pass_322 143 (by decide) ?_
            refine g_lv [2, 3, 0] (lv' := [(0, .ref z), (1, .ref z1), (2, .int (l2 + 1))]) rfl ?_
            exact ih (l2 + 1) u_17 cells slots (by omega) (by omega) hf
        · have hf := ifn c13 hf
          refine g_aload_n C dX2_pass_165 166 rfl 1 rfl ?_
          obtain ⟨x48, e49, hf⟩ := bd1_s hf
          refine g_callV1 C (m_X2_next hfl (z := z) (h := h) e49) cf_X2_next gX2_pass_X2_next ⟨Nat.le_of_ble_eq_true rfl, Nat.le_of_ble_eq_true rfl⟩ (q0 := 0) (As := []) (rest := []) (wl := wA cyZ z1 n2 f3) (wr := []) (c2 := cells) (s2 := slots) rfl rfl rfl (by rw [List.append_nil] <;> rfl) rfl rfl (Nat.le_of_ble_eq_true rfl) rfl rfl ⟨(by show _ ≤ 1; omega), (by show _ ≤ 8; omega)⟩ dX2_pass_166 169 rfl (ws2 := wA cyZ z1 n2 f3 ++ wS cyI cyJ z h u) (by rw [List.append_nil] <;> rfl) (st2 := [.int x48]) rfl ?_
          refine g_istore C dX2_pass_169 171 rfl (by decide) (lv' := [(4, .int x48), (3, .ref (h 1 l2.toNatClampNeg)), (0, .ref z), (1, .ref z1), (2, .int l2)]) rfl ?_
          refine g_iload C dX2_pass_171 173 rfl 0 rfl ?_
          refine g_if_ge C dX2_pass_173 194 176 (by decide) rfl (fun c50 => ?_) (fun c50 => ?_)
          · have hf := ifp c50 hf
            refine g_aload_n C dX2_pass_194 195 rfl 1 rfl ?_
            refine g_iconst C dX2_pass_195 196 rfl ic_1 ?_
            refine g_iload C dX2_pass_196 198 rfl 0 rfl ?_
            obtain ⟨u_52, e51, hf⟩ := bd1_s hf
            refine g_rstG C (wl := wA cyZ z1 n2 f3) (cyJ := cyJ) 1 0 rfl rfl ⟨by decide, by unfold vp_in; decide⟩ e51 dX2_pass_198 199 rfl ?_
            refine g_aload_n C dX2_pass_199 200 rfl 1 rfl ?_
            refine g_iconst C dX2_pass_200 201 rfl ic_2 ?_
            refine g_iconst C dX2_pass_201 202 rfl ic_2 ?_
            refine g_aload_n C dX2_pass_202 203 rfl 2 rfl ?_
            refine g_get C iX2 1 rfl rfl 4 (by decide) kw3 rfl rfl dX2_pass_203 206 rfl ?_
            refine g_iload C dX2_pass_206 208 rfl 0 rfl ?_
            obtain ⟨_, e53, hf⟩ := bd1_s hf
            refine g_aaT C (wl := wA cyZ z1 n2 f3) (cyI := cyI) 2 rfl rfl e53 dX2_pass_208 209 rfl ?_
            refine g_iconst C dX2_pass_209 210 rfl ic_1 ?_
            obtain ⟨x55, e54, hf⟩ := bd1_s hf
            refine g_rldT C (wl := wA cyZ z1 n2 f3) (cyJ := cyJ) 1 0 rfl rfl ⟨by decide, by unfold vp_in; decide⟩ e54 dX2_pass_210 211 rfl ?_
            refine g_iadd C dX2_pass_211 212 rfl ?_
            refine g_aload_n C dX2_pass_212 213 rfl 2 rfl ?_
            obtain ⟨x56, e57, hf⟩ := bd1_s hf
            refine g_callV1 C (m_X2_noise hfl (z := z) (h := h) e57) cf_X2_noise gX2_pass_X2_noise ⟨Nat.le_of_ble_eq_true rfl, Nat.le_of_ble_eq_true rfl⟩ (q0 := 0) (As := []) (rest := [.int (2 + x55), .int 2, .ref (h 1 l2.toNatClampNeg)]) (wl := wA cyZ z1 n2 f3) (wr := []) (c2 := cells) (s2 := slots) rfl rfl rfl (by rw [List.append_nil] <;> rfl) rfl rfl (Nat.le_of_ble_eq_true rfl) rfl rfl ⟨(by show _ ≤ 1; omega), (by show _ ≤ 8; omega)⟩ dX2_pass_213 216 rfl (ws2 := wA cyZ z1 n2 f3 ++ wS cyI cyJ z h u_52) (by rw [List.append_nil] <;> rfl) (st2 := [.int x56, .int (2 + x55), .int 2, .ref (h 1 l2.toNatClampNeg)]) rfl ?_
            refine g_iconst C dX2_pass_216 217 rfl ic_4 ?_
            refine g_idiv C (by decide) dX2_pass_217 218 rfl ?_
            refine g_iadd C dX2_pass_218 219 rfl ?_
            obtain ⟨u_59, e58, hf⟩ := bd1_s hf
            refine g_rstG C (wl := wA cyZ z1 n2 f3) (cyJ := cyJ) 2 0 rfl rfl ⟨by decide, by unfold vp_in; decide⟩ e58 dX2_pass_219 220 rfl ?_
            refine g_aload_n C dX2_pass_220 221 rfl 2 rfl ?_
            refine g_get C iX2 1 rfl rfl 4 (by decide) kw3 rfl rfl dX2_pass_221 224 rfl ?_
            refine g_iload C dX2_pass_224 226 rfl 0 rfl ?_
            obtain ⟨_, e60, hf⟩ := bd1_s hf
            refine g_aaT C (wl := wA cyZ z1 n2 f3) (cyI := cyI) 2 rfl rfl e60 dX2_pass_226 227 rfl ?_
            refine g_iconst C dX2_pass_227 228 rfl ic_4 ?_
            refine g_iconst C dX2_pass_228 229 rfl ic_1 ?_
            obtain ⟨u_62, e61, hf⟩ := bd1_s hf
            refine g_rstT C (wl := wA cyZ z1 n2 f3) (cyJ := cyJ) 4 0 rfl rfl ⟨by decide, by unfold vp_in; decide⟩ e61 dX2_pass_229 230 rfl ?_
            refine g_goto C dX2_pass_230 319 (by decide) ?_
            refine g_iinc C dX2_pass_319 322 rfl 4 rfl (ii_1 _) (by decide) (lv' := [(2, .int (l2 + 1)), (4, .int x48), (3, .ref (h 1 l2.toNatClampNeg)), (0, .ref z), (1, .ref z1)]) rfl ?_
            refine g_goto C dX2_pass_322 143 (by decide) ?_
            refine g_lv [3, 4, 0] (lv' := [(0, .ref z), (1, .ref z1), (2, .int (l2 + 1))]) rfl ?_
            exact ih (l2 + 1) u_62 cells slots (by omega) (by omega) hf
          · have hf := ifn c50 hf
            refine g_aload_n C dX2_pass_176 177 rfl 1 rfl ?_
            refine g_iconst C dX2_pass_177 178 rfl ic_0 ?_
            obtain ⟨x64, e63, hf⟩ := bd1_s hf
            refine g_rldG C (wl := wA cyZ z1 n2 f3) (cyJ := cyJ) 0 0 rfl rfl ⟨by decide, by unfold vp_in; decide⟩ e63 dX2_pass_178 179 rfl ?_
            refine g_bipush C dX2_pass_179 181 rfl bp_9 ?_
            refine g_icmp_ge C dX2_pass_181 319 184 (by decide) rfl (fun c65 => ?_) (fun c65 => ?_)
            · have hf := ifp c65 hf
              refine g_iinc C dX2_pass_319 322 rfl 4 rfl (ii_1 _) (by decide) (lv' := [(2, .int (l2 + 1)), (4, .int x48), (3, .ref (h 1 l2.toNatClampNeg)), (0, .ref z), (1, .ref z1)]) rfl ?_
              refine g_goto C dX2_pass_322 143 (by decide) ?_
              refine g_lv [3, 4, 0] (lv' := [(0, .ref z), (1, .ref z1), (2, .int (l2 + 1))]) rfl ?_
              exact ih (l2 + 1) u cells slots (by omega) (by omega) hf
            · have hf := ifn c65 hf
              refine g_aload_n C dX2_pass_184 185 rfl 1 rfl ?_
              refine g_iconst C dX2_pass_185 186 rfl ic_0 ?_
              refine g_dup2 C dX2_pass_186 187 rfl rfl rfl ?_
              obtain ⟨x67, e66, hf⟩ := bd1_s hf
              refine g_rldG C (wl := wA cyZ z1 n2 f3) (cyJ := cyJ) 0 0 rfl rfl ⟨by decide, by unfold vp_in; decide⟩ e66 dX2_pass_187 188 rfl ?_
              refine g_iconst C dX2_pass_188 189 rfl ic_1 ?_
              refine g_iadd C dX2_pass_189 190 rfl ?_
              obtain ⟨u_69, e68, hf⟩ := bd1_s hf
              refine g_rstG C (wl := wA cyZ z1 n2 f3) (cyJ := cyJ) 0 0 rfl rfl ⟨by decide, by unfold vp_in; decide⟩ e68 dX2_pass_190 191 rfl ?_
              refine g_goto C dX2_pass_191 319 (by decide) ?_
              refine g_iinc C dX2_pass_319 322 rfl 4 rfl (ii_1 _) (by decide) (lv' := [(2, .int (l2 + 1)), (4, .int x48), (3, .ref (h 1 l2.toNatClampNeg)), (0, .ref z), (1, .ref z1)]) rfl ?_
              refine g_goto C dX2_pass_322 143 (by decide) ?_
              refine g_lv [3, 4, 0] (lv' := [(0, .ref z), (1, .ref z1), (2, .int (l2 + 1))]) rfl ?_
              exact ih (l2 + 1) u_69 cells slots (by omega) (by omega) hf
  have L55 : ∀ (n2 : Nat) (l3 : Int32) (f3 : Nat → Int32) (z1 : Nat) (n : Nat) (l4 : Int32) (u : S2) (cells slots : Nat), cells + n * 0 + 0 ≤ 1 → slots + n * 0 + 0 ≤ 8 → X2_pass_L55 n2 l3 f3 n l4 u = some ru → Gq p l e rm_X2_pass s m args below meth c D A 6 Q (wA cyZ z1 n2 f3 ++ wS cyI cyJ z h u) cells slots 55 [(0, .ref z), (1, .ref z1), (2, .ref (h 0 1)), (3, .int l3), (4, .int l4)] [] := by
    intro n2 l3 f3 z1 n
    induction n with
    | zero => intro l4 u cells slots hc1 hc2 hf; simp [X2_pass_L55] at hf
    | succ n ih =>
      intro l4 u cells slots hc1 hc2 hf
      rw [X2_pass_L55] at hf
      refine g_iload C dX2_pass_55 57 rfl 4 rfl ?_
      refine g_iload_n C dX2_pass_57 58 rfl 3 rfl ?_
      refine g_icmp_ge C dX2_pass_58 141 61 (by decide) rfl (fun c6 => ?_) (fun c6 => ?_)
      · have hf := ifp c6 hf
        refine g_iconst C dX2_pass_141 142 rfl ic_0 ?_
        refine g_istore_n C dX2_pass_142 143 rfl (by decide) (lv' := [(2, .int 0), (0, .ref z), (1, .ref z1), (3, .int l3), (4, .int l4)]) rfl ?_
        refine g_lv [1, 2, 0] (lv' := [(0, .ref z), (1, .ref z1), (2, .int 0)]) rfl ?_
        exact L143 n2 f3 z1 200 0 u cells slots (by omega) (by omega) hf
      · have hf := ifn c6 hf
        refine g_aload_n C dX2_pass_61 62 rfl 2 rfl ?_
        refine g_iload C dX2_pass_62 64 rfl 4 rfl ?_
        obtain ⟨_, e70, hf⟩ := bd1_s hf
        refine g_aaT C (wl := wA cyZ z1 n2 f3) (cyI := cyI) 2 rfl rfl e70 dX2_pass_64 65 rfl ?_
        refine g_astore C dX2_pass_65 67 rfl (by decide) (lv' := [(5, .ref (h 2 l4.toNatClampNeg)), (0, .ref z), (1, .ref z1), (2, .ref (h 0 1)), (3, .int l3), (4, .int l4)]) rfl ?_
        refine g_aload C dX2_pass_67 69 rfl 0 rfl ?_
        refine g_iconst C dX2_pass_69 70 rfl ic_4 ?_
        obtain ⟨x72, e71, hf⟩ := bd1_s hf
        refine g_rldT C (wl := wA cyZ z1 n2 f3) (cyJ := cyJ) 4 0 rfl rfl ⟨by decide, by unfold vp_in; decide⟩ e71 dX2_pass_70 71 rfl ?_
        refine g_iconst C dX2_pass_71 72 rfl ic_2 ?_
        refine g_icmp_ne C dX2_pass_72 98 75 (by decide) rfl (fun c73 => ?_) (fun c73 => ?_)
        · have hf := ifn c73 hf
          refine g_aload C dX2_pass_98 100 rfl 0 rfl ?_
          refine g_iconst C dX2_pass_100 101 rfl ic_4 ?_
          obtain ⟨x75, e74, hf⟩ := bd1_s hf
          refine g_rldT C (wl := wA cyZ z1 n2 f3) (cyJ := cyJ) 4 0 rfl rfl ⟨by decide, by unfold vp_in; decide⟩ e74 dX2_pass_101 102 rfl ?_
          refine g_if_ne C dX2_pass_102 135 105 (by decide) rfl (fun c76 => ?_) (fun c76 => ?_)
          · have hf := ifn c76 hf
            refine g_iinc C dX2_pass_135 138 rfl 5 rfl (ii_1 _) (by decide) (lv' := [(4, .int (l4 + 1)), (5, .ref (h 2 l4.toNatClampNeg)), (0, .ref z), (1, .ref z1), (2, .ref (h 0 1)), (3, .int l3)]) rfl ?_
            refine g_goto C dX2_pass_138 55 (by decide) ?_
            refine g_lv [2, 3, 4, 5, 0] (lv' := [(0, .ref z), (1, .ref z1), (2, .ref (h 0 1)), (3, .int l3), (4, .int (l4 + 1))]) rfl ?_
            exact ih (l4 + 1) u cells slots (by omega) (by omega) hf
          · have hf := ifp c76 hf
            refine g_aload C dX2_pass_105 107 rfl 0 rfl ?_
            refine g_iconst C dX2_pass_107 108 rfl ic_3 ?_
            refine g_dup2 C dX2_pass_108 109 rfl rfl rfl ?_
            obtain ⟨x78, e77, hf⟩ := bd1_s hf
            refine g_rldT C (wl := wA cyZ z1 n2 f3) (cyJ := cyJ) 3 0 rfl rfl ⟨by decide, by unfold vp_in; decide⟩ e77 dX2_pass_109 110 rfl ?_
            refine g_iconst C dX2_pass_110 111 rfl ic_1 ?_
            refine g_isub C dX2_pass_111 112 rfl ?_
            obtain ⟨u_80, e79, hf⟩ := bd1_s hf
            refine g_rstT C (wl := wA cyZ z1 n2 f3) (cyJ := cyJ) 3 0 rfl rfl ⟨by decide, by unfold vp_in; decide⟩ e79 dX2_pass_112 113 rfl ?_
            refine g_aload C dX2_pass_113 115 rfl 0 rfl ?_
            refine g_iconst C dX2_pass_115 116 rfl ic_3 ?_
            obtain ⟨x82, e81, hf⟩ := bd1_s hf
            refine g_rldT C (wl := wA cyZ z1 n2 f3) (cyJ := cyJ) 3 0 rfl rfl ⟨by decide, by unfold vp_in; decide⟩ e81 dX2_pass_116 117 rfl ?_
            refine g_if_ne C dX2_pass_117 135 120 (by decide) rfl (fun c83 => ?_) (fun c83 => ?_)
            · have hf := ifn c83 hf
              refine g_iinc C dX2_pass_135 138 rfl 5 rfl (ii_1 _) (by decide) (lv' := [(4, .int (l4 + 1)), (5, .ref (h 2 l4.toNatClampNeg)), (0, .ref z), (1, .ref z1), (2, .ref (h 0 1)), (3, .int l3)]) rfl ?_
              refine g_goto C dX2_pass_138 55 (by decide) ?_
              refine g_lv [2, 3, 4, 5, 0] (lv' := [(0, .ref z), (1, .ref z1), (2, .ref (h 0 1)), (3, .int l3), (4, .int (l4 + 1))]) rfl ?_
              exact ih (l4 + 1) u_80 cells slots (by omega) (by omega) hf
            · have hf := ifp c83 hf
              refine g_aload C dX2_pass_120 122 rfl 0 rfl ?_
              refine g_iconst C dX2_pass_122 123 rfl ic_4 ?_
              refine g_iconst C dX2_pass_123 124 rfl ic_4 ?_
              obtain ⟨u_85, e84, hf⟩ := bd1_s hf
              refine g_rstT C (wl := wA cyZ z1 n2 f3) (cyJ := cyJ) 4 0 rfl rfl ⟨by decide, by unfold vp_in; decide⟩ e84 dX2_pass_124 125 rfl ?_
              refine g_aload_n C dX2_pass_125 126 rfl 1 rfl ?_
              refine g_dup C dX2_pass_126 127 rfl rfl ?_
              refine g_get C iX2 1 rfl rfl 1 (by decide) kw6 rfl rfl dX2_pass_127 130 rfl ?_
              refine g_iconst C dX2_pass_130 131 rfl ic_1 ?_
              refine g_iadd C dX2_pass_131 132 rfl ?_
              obtain ⟨u_87, e86, hf⟩ := bd1_s hf
              refine g_put C iX2 tyX2 tyX2_ok nmX2 1 rfl rfl 1 (by decide) kw6 rfl rfl rfl (Nat.le_of_ble_eq_true rfl) (rS_put (cyI := cyI) (cyJ := cyJ) (wl := wA cyZ z1 n2 f3) (h := h) (k := 1) (by decide) e86) dX2_pass_132 135 rfl ?_
              refine g_iinc C dX2_pass_135 138 rfl 5 rfl (ii_1 _) (by decide) (lv' := [(4, .int (l4 + 1)), (5, .ref (h 2 l4.toNatClampNeg)), (0, .ref z), (1, .ref z1), (2, .ref (h 0 1)), (3, .int l3)]) rfl ?_
              refine g_goto C dX2_pass_138 55 (by decide) ?_
              refine g_lv [2, 3, 4, 5, 0] (lv' := [(0, .ref z), (1, .ref z1), (2, .ref (h 0 1)), (3, .int l3), (4, .int (l4 + 1))]) rfl ?_
              exact ih (l4 + 1) u_87 cells slots (by omega) (by omega) hf
        · have hf := ifp c73 hf
          refine g_aload C dX2_pass_75 77 rfl 0 rfl ?_
          refine g_iconst C dX2_pass_77 78 rfl ic_5 ?_
          refine g_dup2 C dX2_pass_78 79 rfl rfl rfl ?_
          obtain ⟨x89, e88, hf⟩ := bd1_s hf
          refine g_rldT C (wl := wA cyZ z1 n2 f3) (cyJ := cyJ) 5 0 rfl rfl ⟨by decide, by unfold vp_in; decide⟩ e88 dX2_pass_79 80 rfl ?_
          refine g_iconst C dX2_pass_80 81 rfl ic_1 ?_
          refine g_isub C dX2_pass_81 82 rfl ?_
          obtain ⟨u_91, e90, hf⟩ := bd1_s hf
          refine g_rstT C (wl := wA cyZ z1 n2 f3) (cyJ := cyJ) 5 0 rfl rfl ⟨by decide, by unfold vp_in; decide⟩ e90 dX2_pass_82 83 rfl ?_
          refine g_aload C dX2_pass_83 85 rfl 0 rfl ?_
          refine g_iconst C dX2_pass_85 86 rfl ic_5 ?_
          obtain ⟨x93, e92, hf⟩ := bd1_s hf
          refine g_rldT C (wl := wA cyZ z1 n2 f3) (cyJ := cyJ) 5 0 rfl rfl ⟨by decide, by unfold vp_in; decide⟩ e92 dX2_pass_86 87 rfl ?_
          refine g_if_ne C dX2_pass_87 135 90 (by decide) rfl (fun c94 => ?_) (fun c94 => ?_)
          · have hf := ifn c94 hf
            refine g_iinc C dX2_pass_135 138 rfl 5 rfl (ii_1 _) (by decide) (lv' := [(4, .int (l4 + 1)), (5, .ref (h 2 l4.toNatClampNeg)), (0, .ref z), (1, .ref z1), (2, .ref (h 0 1)), (3, .int l3)]) rfl ?_
            refine g_goto C dX2_pass_138 55 (by decide) ?_
            refine g_lv [2, 3, 4, 5, 0] (lv' := [(0, .ref z), (1, .ref z1), (2, .ref (h 0 1)), (3, .int l3), (4, .int (l4 + 1))]) rfl ?_
            exact ih (l4 + 1) u_91 cells slots (by omega) (by omega) hf
          · have hf := ifp c94 hf
            refine g_aload C dX2_pass_90 92 rfl 0 rfl ?_
            refine g_iconst C dX2_pass_92 93 rfl ic_4 ?_
            refine g_iconst C dX2_pass_93 94 rfl ic_3 ?_
            obtain ⟨u_96, e95, hf⟩ := bd1_s hf
            refine g_rstT C (wl := wA cyZ z1 n2 f3) (cyJ := cyJ) 4 0 rfl rfl ⟨by decide, by unfold vp_in; decide⟩ e95 dX2_pass_94 95 rfl ?_
            refine g_goto C dX2_pass_95 135 (by decide) ?_
            refine g_iinc C dX2_pass_135 138 rfl 5 rfl (ii_1 _) (by decide) (lv' := [(4, .int (l4 + 1)), (5, .ref (h 2 l4.toNatClampNeg)), (0, .ref z), (1, .ref z1), (2, .ref (h 0 1)), (3, .int l3)]) rfl ?_
            refine g_goto C dX2_pass_138 55 (by decide) ?_
            refine g_lv [2, 3, 4, 5, 0] (lv' := [(0, .ref z), (1, .ref z1), (2, .ref (h 0 1)), (3, .int l3), (4, .int (l4 + 1))]) rfl ?_
            exact ih (l4 + 1) u_96 cells slots (by omega) (by omega) hf
  have L10 : ∀ (n2 : Nat) (u : S2) (z1 : Nat) (n : Nat) (l2 : Int32) (f3 : Nat → Int32) (cells slots : Nat), cells + n * 0 + 0 ≤ 1 → slots + n * 0 + 0 ≤ 8 → X2_pass_L10 n2 u n l2 f3 = some ru → Gq p l e rm_X2_pass s m args below meth c D A 6 Q (wA cyZ z1 n2 f3 ++ wS cyI cyJ z h u) cells slots 10 [(0, .ref z), (1, .ref z1), (2, .int l2)] [] := by
    intro n2 u z1 n
    induction n with
    | zero => intro l2 f3 cells slots hc1 hc2 hf; simp [X2_pass_L10] at hf
    | succ n ih =>
      intro l2 f3 cells slots hc1 hc2 hf
      rw [X2_pass_L10] at hf
      refine g_iload_n C dX2_pass_10 11 rfl 2 rfl ?_
      refine g_aload_n C dX2_pass_11 12 rfl 0 rfl ?_
      refine g_get C iX2 1 rfl rfl 3 (by decide) kw0 rfl rfl dX2_pass_12 15 rfl ?_
      refine g_alen C 2 2 rfl rfl (v := (nI (nG u))) rfl dX2_pass_15 16 rfl ?_
      refine g_icmp_ge C dX2_pass_16 44 19 (by decide) rfl (fun c5 => ?_) (fun c5 => ?_)
      · have hf := ifp c5 hf
        refine g_aload_n C dX2_pass_44 45 rfl 0 rfl ?_
        refine g_get C iX2 1 rfl rfl 4 (by decide) kw3 rfl rfl dX2_pass_45 48 rfl ?_
        refine g_astore_n C dX2_pass_48 49 rfl (by decide) (lv' := [(2, .ref (h 0 1)), (0, .ref z), (1, .ref z1)]) rfl ?_
        refine g_aload_n C dX2_pass_49 50 rfl 0 rfl ?_
        refine g_alen C 3 2 rfl rfl (v := (nI (nT u))) rfl dX2_pass_50 51 rfl ?_
        refine g_istore_n C dX2_pass_51 52 rfl (by decide) (lv' := [(3, .int (nI (nT u))), (2, .ref (h 0 1)), (0, .ref z), (1, .ref z1)]) rfl ?_
        refine g_iconst C dX2_pass_52 53 rfl ic_0 ?_
        refine g_istore C dX2_pass_53 55 rfl (by decide) (lv' := [(4, .int 0), (3, .int (nI (nT u))), (2, .ref (h 0 1)), (0, .ref z), (1, .ref z1)]) rfl ?_
        refine g_lv [3, 4, 2, 1, 0] (lv' := [(0, .ref z), (1, .ref z1), (2, .ref (h 0 1)), (3, .int (nI (nT u))), (4, .int 0)]) rfl ?_
        exact L55 n2 (nI (nT u)) f3 z1 200 0 u cells slots (by omega) (by omega) hf
      · have hf := ifn c5 hf
        refine g_aload_n C dX2_pass_19 20 rfl 1 rfl ?_
        refine g_iload_n C dX2_pass_20 21 rfl 2 rfl ?_
        refine g_aload_n C dX2_pass_21 22 rfl 0 rfl ?_
        refine g_get C iX2 1 rfl rfl 3 (by decide) kw0 rfl rfl dX2_pass_22 25 rfl ?_
        refine g_iload_n C dX2_pass_25 26 rfl 2 rfl ?_
        obtain ⟨_, e97, hf⟩ := bd1_s hf
        refine g_aaG C (wl := wA cyZ z1 n2 f3) (cyI := cyI) 2 rfl rfl e97 dX2_pass_26 27 rfl ?_
        refine g_iconst C dX2_pass_27 28 rfl ic_1 ?_
        obtain ⟨x99, e98, hf⟩ := bd1_s hf
        refine g_rldG C (wl := wA cyZ z1 n2 f3) (cyJ := cyJ) 1 0 rfl rfl ⟨by decide, by unfold vp_in; decide⟩ e98 dX2_pass_28 29 rfl ?_
        refine g_if_ge C dX2_pass_29 36 32 (by decide) rfl (fun c100 => ?_) (fun c100 => ?_)
        · have hf := ifp c100 hf
          refine g_iconst C dX2_pass_36 37 rfl ic_0 ?_
          obtain ⟨_, e102, hf⟩ := bd1_s hf
          obtain ⟨f3_103, e101, hf⟩ := bd1_s hf
          refine g_zast C 0 1 rfl rfl (stF_in e101) (bl_n e102) (st_18 (cyI := cyI) (cyZ := cyZ) (cyJ := cyJ) e101) dX2_pass_37 38 rfl ?_
          refine g_iinc C dX2_pass_38 41 rfl 2 rfl (ii_1 _) (by decide) (lv' := [(2, .int (l2 + 1)), (0, .ref z), (1, .ref z1)]) rfl ?_
          refine g_goto C dX2_pass_41 10 (by decide) ?_
          refine g_lv [1, 2, 0] (lv' := [(0, .ref z), (1, .ref z1), (2, .int (l2 + 1))]) rfl ?_
          exact ih (l2 + 1) f3_103 cells slots (by omega) (by omega) hf
        · have hf := ifn c100 hf
          refine g_iconst C dX2_pass_32 33 rfl ic_1 ?_
          refine g_goto C dX2_pass_33 37 (by decide) ?_
          obtain ⟨_, e105, hf⟩ := bd1_s hf
          obtain ⟨f3_106, e104, hf⟩ := bd1_s hf
          refine g_zast C 0 1 rfl rfl (stF_in e104) (bl_n e105) (st_18 (cyI := cyI) (cyZ := cyZ) (cyJ := cyJ) e104) dX2_pass_37 38 rfl ?_
          refine g_iinc C dX2_pass_38 41 rfl 2 rfl (ii_1 _) (by decide) (lv' := [(2, .int (l2 + 1)), (0, .ref z), (1, .ref z1)]) rfl ?_
          refine g_goto C dX2_pass_41 10 (by decide) ?_
          refine g_lv [1, 2, 0] (lv' := [(0, .ref z), (1, .ref z1), (2, .int (l2 + 1))]) rfl ?_
          exact ih (l2 + 1) f3_106 cells slots (by omega) (by omega) hf
  unfold X2_pass at hf
  refine g_lve (lv' := [(0, .ref z)]) rfl ?_
  refine g_aload_n C dX2_pass_0 1 rfl 0 rfl ?_
  refine g_get C iX2 0 rfl rfl 3 (by decide) kw0 rfl rfl dX2_pass_1 4 rfl ?_
  refine g_alen C 1 2 rfl rfl (v := (nI (nG u))) rfl dX2_pass_4 5 rfl ?_
  obtain ⟨n2, e4, hf⟩ := bd1_s hf
  refine g_newv C (atype := .boolean) (cap := 8) (n := n2) kw2 rfl (fun _ h => by cases h) 1 rfl (fun _ => rfl) e4 (by decide) (c2 := 1) (s2 := 8) rfl rfl (Nat.le_of_ble_eq_true rfl) (Nat.le_of_ble_eq_true rfl) dX2_pass_5 7 rfl (fun z1 => ?_)
  refine g_perm (ws' := wA cyZ z1 n2 (fun _ => 0) ++ wS cyI cyJ z h u) (wl := []) (w1 := wS cyI cyJ z h u) (w2 := wA cyZ z1 n2 (fun _ => 0)) rfl rfl ?_
  refine g_astore_n C dX2_pass_7 8 rfl (by decide) (lv' := [(1, .ref z1), (0, .ref z)]) rfl ?_
  refine g_iconst C dX2_pass_8 9 rfl ic_0 ?_
  refine g_istore_n C dX2_pass_9 10 rfl (by decide) (lv' := [(2, .int 0), (1, .ref z1), (0, .ref z)]) rfl ?_
  refine g_lv [2, 1, 0] (lv' := [(0, .ref z), (1, .ref z1), (2, .int 0)]) rfl ?_
  exact L10 n2 u z1 200 0 (fun _ => 0) 1 8 (Nat.le_of_ble_eq_true rfl) (Nat.le_of_ble_eq_true rfl) hf
abbrev rm_X2_behind : Room := { frames := 2, cells := 61, slots := 488, locals := 50 }
theorem cf_X2_behind : CF yX2_behind wsX2_behind rm_X2_behind cX2_behind 4 (some .int) 1 61 488 RX2 := ⟨⟨_, rfl⟩, rfl, rfl, rfl, by decide, by decide, by decide +kernel⟩
set_option maxHeartbeats 4000000 in
set_option maxRecDepth 100000 in
theorem m_X2_behind {l : Launch} (hfl : l.stackTraces = false) {D : va_G} {cyI cyZ cyJ : ClassId} {sc : SC} {z : Nat} {h : Nat → Nat → Nat} {u : S2} {a0 : Int32} {rx : Int32} {ru : S2} (hf : X2_behind u a0 = some (rx, ru)) : Ct (ev_s, sc) l yX2_behind wsX2_behind rm_X2_behind D (ty3 cyI cyZ cyJ) [.ref z, .int a0] (wS cyI cyJ z h u) (fun o => o = .inr (some (.int rx), wS cyI cyJ z h ru)) 61 488 := by
  refine ct_of (cc := cX2_behind) (nL := 4) (own := RX2) (ret := (some .int)) hfl (by decide) rfl rfl (Nat.le_of_ble_eq_true rfl) (fun p e s m args below meth c A C hr hnm => ?_)
  refine g_setQ (fun Q hQ => ?_)
  have L8 : ∀ (l1 : Int32) (l2 : Int32) (n : Nat) (l3 : Int32) (u : S2) (cells slots : Nat), cells + n * 1 + 0 ≤ 61 → slots + n * 8 + 0 ≤ 488 → X2_behind_L8 l1 l2 n l3 u = some (rx, ru) → Gq p l e rm_X2_behind s m args below meth c D A 4 Q (wS cyI cyJ z h u) cells slots 8 [(0, .ref z), (1, .int l1), (2, .int l2), (3, .int l3)] [] := by
    intro l1 l2 n
    induction n with
    | zero => intro l3 u cells slots hc1 hc2 hf; simp [X2_behind_L8] at hf
    | succ n ih =>
      intro l3 u cells slots hc1 hc2 hf
      rw [X2_behind_L8] at hf
      refine g_iload_n C dX2_behind_8 9 rfl 3 rfl ?_
      refine g_iload_n C dX2_behind_9 10 rfl 1 rfl ?_
      refine g_icmp_ge C dX2_behind_10 23 13 (by decide) rfl (fun c3 => ?_) (fun c3 => ?_)
      · have hf := ifp c3 hf
        refine g_aload_n C dX2_behind_23 24 rfl 0 rfl ?_
        refine g_iconst C dX2_behind_24 25 rfl ic_3 ?_
        obtain ⟨x4, e5, hf⟩ := bd1_s hf
        refine g_callV1 C (m_X2_count hfl (z := z) (h := h) e5) cf_X2_count gX2_behind_X2_count ⟨Nat.le_of_ble_eq_true rfl, Nat.le_of_ble_eq_true rfl⟩ (q0 := 0) (As := [.int 3]) (rest := []) (wl := []) (wr := []) (c2 := cells) (s2 := slots) rfl rfl rfl (by rw [List.append_nil] <;> rfl) rfl rfl (Nat.le_of_ble_eq_true rfl) rfl rfl ⟨(by show _ ≤ 61; omega), (by show _ ≤ 488; omega)⟩ dX2_behind_25 28 rfl (ws2 := wS cyI cyJ z h u) (by rw [List.append_nil] <;> rfl) (st2 := [.int x4]) rfl ?_
        refine g_iload_n C dX2_behind_28 29 rfl 2 rfl ?_
        refine g_isub C dX2_behind_29 30 rfl ?_
        refine g_Q hQ ?_
        exact g_iret C hr (by cases hf; rfl) (by omega) (by omega) dX2_behind_30
      · have hf := ifn c3 hf
        refine g_aload_n C dX2_behind_13 14 rfl 0 rfl ?_
        obtain ⟨u_6, e7, hf⟩ := bd1_s hf
        refine g_callV1 C (m_X2_pass hfl (z := z) (h := h) e7) cf_X2_pass gX2_behind_X2_pass ⟨Nat.le_of_ble_eq_true rfl, Nat.le_of_ble_eq_true rfl⟩ (q0 := 0) (As := []) (rest := []) (wl := []) (wr := []) (c2 := cells + 1) (s2 := slots + 8) rfl rfl rfl (by rw [List.append_nil] <;> rfl) rfl rfl (Nat.le_of_ble_eq_true rfl) rfl rfl ⟨(by show _ ≤ 61; omega), (by show _ ≤ 488; omega)⟩ dX2_behind_14 17 rfl (ws2 := wS cyI cyJ z h u_6) (by rw [List.append_nil] <;> rfl) (st2 := []) rfl ?_
        refine g_iinc C dX2_behind_17 20 rfl 3 rfl (ii_1 _) (by decide) (lv' := [(3, .int (l3 + 1)), (0, .ref z), (1, .int l1), (2, .int l2)]) rfl ?_
        refine g_goto C dX2_behind_20 8 (by decide) ?_
        refine g_lv [1, 2, 3, 0] (lv' := [(0, .ref z), (1, .int l1), (2, .int l2), (3, .int (l3 + 1))]) rfl ?_
        exact ih (l3 + 1) u_6 (cells + 1) (slots + 8) (by omega) (by omega) hf
  unfold X2_behind at hf
  refine g_lve (lv' := [(0, .ref z), (1, .int a0)]) rfl ?_
  refine g_aload_n C dX2_behind_0 1 rfl 0 rfl ?_
  refine g_iconst C dX2_behind_1 2 rfl ic_3 ?_
  obtain ⟨x1, e2, hf⟩ := bd1_s hf
  refine g_callV1 C (m_X2_count hfl (z := z) (h := h) e2) cf_X2_count gX2_behind_X2_count ⟨Nat.le_of_ble_eq_true rfl, Nat.le_of_ble_eq_true rfl⟩ (q0 := 0) (As := [.int 3]) (rest := []) (wl := []) (wr := []) (c2 := 0) (s2 := 0) rfl rfl rfl (by rw [List.append_nil] <;> rfl) rfl rfl (Nat.le_of_ble_eq_true rfl) rfl rfl ⟨Nat.le_of_ble_eq_true rfl, Nat.le_of_ble_eq_true rfl⟩ dX2_behind_2 5 rfl (ws2 := wS cyI cyJ z h u) (by rw [List.append_nil] <;> rfl) (st2 := [.int x1]) rfl ?_
  refine g_istore_n C dX2_behind_5 6 rfl (by decide) (lv' := [(2, .int x1), (0, .ref z), (1, .int a0)]) rfl ?_
  refine g_iconst C dX2_behind_6 7 rfl ic_0 ?_
  refine g_istore_n C dX2_behind_7 8 rfl (by decide) (lv' := [(3, .int 0), (2, .int x1), (0, .ref z), (1, .int a0)]) rfl ?_
  refine g_lv [2, 3, 1, 0] (lv' := [(0, .ref z), (1, .int a0), (2, .int x1), (3, .int 0)]) rfl ?_
  exact L8 a0 x1 61 0 u 0 0 (Nat.le_of_ble_eq_true rfl) (Nat.le_of_ble_eq_true rfl) hf
abbrev rm_X2_isSame : Room := { frames := 8, cells := 403, slots := 2418, locals := 125 }
theorem cf_X2_isSame : CF yX2_isSame wsX2_isSame rm_X2_isSame cX2_isSame 8 (some .boolean) 1 403 2418 RX2 := ⟨⟨_, rfl⟩, rfl, rfl, rfl, by decide, by decide, by decide +kernel⟩
set_option maxHeartbeats 4000000 in
set_option maxRecDepth 100000 in
theorem m_X2_isSame {l : Launch} (hfl : l.stackTraces = false) {D : va_G} {cyI cyZ cyJ : ClassId} {sc : SC} {g : Nat} {h1 : Nat → Nat} {b1 : S2} {h2 : Nat → Nat} {b2 : S2} {z : Nat} {h : Nat → Nat → Nat} {u : S2} {rx : Int32} (hf : X2_isSame b1 b2 u = some rx) : Ct (ev_s, sc) l yX2_isSame wsX2_isSame rm_X2_isSame D (ty3 cyI cyZ cyJ) [.ref z, .ref g] (wC g h1 h2 ++ (wB cyI h1 b1 ++ (wB cyI h2 b2 ++ wS cyI cyJ z h u))) (fun o => o = .inr (some (.int rx), wC g h1 h2 ++ (wB cyI h1 b1 ++ (wB cyI h2 b2 ++ wS cyI cyJ z h u)))) 403 2418 := by
  refine ct_of (cc := cX2_isSame) (nL := 8) (own := RX2) (ret := (some .boolean)) hfl (by decide) rfl rfl (Nat.le_of_ble_eq_true rfl) (fun p e s m args below meth c A C hr hnm => ?_)
  refine g_setQ (fun Q hQ => ?_)
  have kw0 := Cx.w C (.fieldLink RX2 40 "SleepBorderLaw$Sim" "minute" "I") (by decide +kernel)
  have iX2 : ∀ w ∈ u_ws RX2 TX2 5, w ∈ wsX2_isSame := by decide +kernel
  have kw2 := Cx.w C (.fieldLink RX2 15 "SleepBorderLaw$Sim" "travellers" "[[I") (by decide +kernel)
  have kw3 := Cx.w C (.fieldLink RX2 18 "SleepBorderLaw$Sim" "expired" "I") (by decide +kernel)
  have kw4 := Cx.w C (.fieldLink RX2 33 "SleepBorderLaw$Sim" "paid" "I") (by decide +kernel)
  have kw5 := Cx.w C (.fieldLink RX2 9 "SleepBorderLaw$Sim" "guards" "[[I") (by decide +kernel)
  have L341 : ∀ (l3 : Int32) (l4 : Int32) (l5 : Int32) (ct st : Nat) (hc1 : ct ≤ 403) (hc2 : st ≤ 2418) (K : Option Int32) (hK : K = some rx → Gq p l e rm_X2_isSame s m args below meth c D A 8 Q (wC g h1 h2 ++ (wB cyI h1 b1 ++ (wB cyI h2 b2 ++ wS cyI cyJ z h u))) ct st 382 [(0, .ref z), (1, .ref g), (3, .int l3), (4, .int l4), (5, .int l5)] []) (n : Nat) (l7 : Int32) (cells slots : Nat), cells + n * 2 + 2 ≤ ct → slots + n * 12 + 12 ≤ st → X2_isSame_L341 K l3 l4 l5 b1 b2 u n l7 = some rx → Gq p l e rm_X2_isSame s m args below meth c D A 8 Q (wC g h1 h2 ++ (wB cyI h1 b1 ++ (wB cyI h2 b2 ++ wS cyI cyJ z h u))) cells slots 341 [(0, .ref z), (1, .ref g), (3, .int l3), (4, .int l4), (5, .int l5), (6, .ref (h 1 l5.toNatClampNeg)), (7, .int l7)] [] := by
    intro l3 l4 l5 ct st hc1 hc2 K hK n
    induction n with
    | zero => intro l7 cells slots hd1 hd2 hf; simp [X2_isSame_L341] at hf
    | succ n ih =>
      intro l7 cells slots hd1 hd2 hf
      rw [X2_isSame_L341] at hf
      refine g_iload C dX2_isSame_341 343 rfl 6 rfl ?_
      refine g_aload_n C dX2_isSame_343 344 rfl 0 rfl ?_
      refine g_get C iX2 23 rfl rfl 4 (by decide) kw2 rfl rfl dX2_isSame_344 347 rfl ?_
      refine g_alen C 25 2 rfl rfl (v := (nI (nT u))) rfl dX2_isSame_347 348 rfl ?_
      refine g_icmp_ge C dX2_isSame_348 382 351 (by decide) rfl (fun c76 => ?_) (fun c76 => ?_)
      · have hf := ifp c76 hf
        refine g_lv [0, 1, 2, 3, 4] (lv' := [(0, .ref z), (1, .ref g), (3, .int l3), (4, .int l4), (5, .int l5)]) rfl ?_
        refine g_wide (c2 := ct) (s2 := st) (by omega) (by omega) ?_
        exact hK hf
      · have hf := ifn c76 hf
        refine g_aload_n C dX2_isSame_351 352 rfl 1 rfl ?_
        refine g_iload C dX2_isSame_352 354 rfl 4 rfl ?_
        refine g_iload C dX2_isSame_354 356 rfl 6 rfl ?_
        obtain ⟨x77, e78, hf⟩ := bz1_s hf
        refine g_callV1 C (m_X1_wouldFind_r hfl (g := g) (h1 := h1) (h2 := h2) e78) cf_X1_wouldFind gX2_isSame_X1_wouldFind ⟨Nat.le_of_ble_eq_true rfl, Nat.le_of_ble_eq_true rfl⟩ (q0 := 0) (As := [.int l5, .int l7]) (rest := []) (wl := []) (wr := wS cyI cyJ z h u) (c2 := cells + 2) (s2 := slots + 12) rfl rfl rfl rfl rfl rfl (Nat.le_of_ble_eq_true rfl) rfl rfl ⟨(by show _ ≤ 403; omega), (by show _ ≤ 2418; omega)⟩ dX2_isSame_356 359 rfl (ws2 := wC g h1 h2 ++ (wB cyI h1 b1 ++ (wB cyI h2 b2 ++ wS cyI cyJ z h u))) rfl (st2 := [.int x77]) rfl ?_
        refine g_aload C dX2_isSame_359 361 rfl 5 rfl ?_
        refine g_aload_n C dX2_isSame_361 362 rfl 0 rfl ?_
        refine g_get C iX2 23 rfl rfl 4 (by decide) kw2 rfl rfl dX2_isSame_362 365 rfl ?_
        refine g_iload C dX2_isSame_365 367 rfl 6 rfl ?_
        obtain ⟨_, e80, hf⟩ := bd1_s hf
        refine g_aaT C (wl := wC g h1 h2 ++ (wB cyI h1 b1 ++ wB cyI h2 b2)) (cyI := cyI) 2 rfl rfl e80 dX2_isSame_367 368 rfl ?_
        obtain ⟨x81, e82, hf⟩ := bd1_s hf
        refine g_callS1 C (m_X2_finds hfl (z := z) (h := h) e82) cf_X2_finds gX2_isSame_X2_finds ⟨Nat.le_of_ble_eq_true rfl, Nat.le_of_ble_eq_true rfl⟩ (As := [.ref (h 1 l5.toNatClampNeg), .ref (h 2 l7.toNatClampNeg)]) (rest := [.int x77]) (wl := wC g h1 h2 ++ (wB cyI h1 b1 ++ wB cyI h2 b2)) (wr := []) (c2 := cells + 2) (s2 := slots + 12) (by rw [List.append_nil] <;> rfl) rfl rfl (Nat.le_of_ble_eq_true rfl) rfl rfl ⟨(by show _ ≤ 403; omega), (by show _ ≤ 2418; omega)⟩ dX2_isSame_368 371 rfl (ws2 := wC g h1 h2 ++ (wB cyI h1 b1 ++ (wB cyI h2 b2 ++ wS cyI cyJ z h u))) (by rw [List.append_nil] <;> rfl) (st2 := [.int x81, .int x77]) rfl ?_
        refine g_icmp_eq C dX2_isSame_371 376 374 (by decide) rfl (fun c83 => ?_) (fun c83 => ?_)
        · have hf := ifp c83 hf
          refine g_iinc C dX2_isSame_376 379 rfl 6 rfl (ii_1 _) (by decide) (lv' := [(7, .int (l7 + 1)), (0, .ref z), (1, .ref g), (3, .int l3), (4, .int l4), (5, .int l5), (6, .ref (h 1 l5.toNatClampNeg))]) rfl ?_
          refine g_goto C dX2_isSame_379 341 (by decide) ?_
          refine g_lv [1, 2, 3, 4, 5, 6, 0] (lv' := [(0, .ref z), (1, .ref g), (3, .int l3), (4, .int l4), (5, .int l5), (6, .ref (h 1 l5.toNatClampNeg)), (7, .int (l7 + 1))]) rfl ?_
          exact ih (l7 + 1) (cells + 2) (slots + 12) (by omega) (by omega) hf
        · have hf := ifn c83 hf
          refine g_iconst C dX2_isSame_374 375 rfl ic_0 ?_
          refine g_Q hQ ?_
          exact g_zret C hr (Or.inl rfl) (by cases hf; rfl) (by omega) (by omega) dX2_isSame_375
  have L247 : ∀ (n : Nat) (l3 : Int32) (l4 : Int32) (l5 : Int32) (cells slots : Nat), cells + n * 55 + 3 ≤ 403 → slots + n * 330 + 18 ≤ 2418 → X2_isSame_L247 b1 b2 u n l3 l4 l5 = some rx → Gq p l e rm_X2_isSame s m args below meth c D A 8 Q (wC g h1 h2 ++ (wB cyI h1 b1 ++ (wB cyI h2 b2 ++ wS cyI cyJ z h u))) cells slots 247 [(0, .ref z), (1, .ref g), (3, .int l3), (4, .int l4), (5, .int l5)] [] := by
    intro n
    induction n with
    | zero => intro l3 l4 l5 cells slots hc1 hc2 hf; simp [X2_isSame_L247] at hf
    | succ n ih =>
      intro l3 l4 l5 cells slots hc1 hc2 hf
      rw [X2_isSame_L247] at hf
      refine g_iload C dX2_isSame_247 249 rfl 4 rfl ?_
      refine g_aload_n C dX2_isSame_249 250 rfl 0 rfl ?_
      refine g_get C iX2 23 rfl rfl 3 (by decide) kw5 rfl rfl dX2_isSame_250 253 rfl ?_
      refine g_alen C 24 2 rfl rfl (v := (nI (nG u))) rfl dX2_isSame_253 254 rfl ?_
      refine g_icmp_ge C dX2_isSame_254 388 257 (by decide) rfl (fun c42 => ?_) (fun c42 => ?_)
      · have hf := ifp c42 hf
        refine g_aload_n C dX2_isSame_388 389 rfl 1 rfl ?_
        obtain ⟨x43, e44, hf⟩ := bd1_s hf
        refine g_callV1 C (m_X1_mostAlert hfl (g := g) (h1 := h1) (h2 := h2) e44) cf_X1_mostAlert gX2_isSame_X1_mostAlert ⟨Nat.le_of_ble_eq_true rfl, Nat.le_of_ble_eq_true rfl⟩ (q0 := 0) (As := []) (rest := []) (wl := []) (wr := wS cyI cyJ z h u) (c2 := cells) (s2 := slots) rfl rfl rfl rfl rfl rfl (Nat.le_of_ble_eq_true rfl) rfl rfl ⟨(by show _ ≤ 403; omega), (by show _ ≤ 2418; omega)⟩ dX2_isSame_389 392 rfl (ws2 := wC g h1 h2 ++ (wB cyI h1 b1 ++ (wB cyI h2 b2 ++ wS cyI cyJ z h u))) rfl (st2 := [.int x43]) rfl ?_
        refine g_iload_n C dX2_isSame_392 393 rfl 2 rfl ?_
        refine g_icmp_ne C dX2_isSame_393 430 396 (by decide) rfl (fun c45 => ?_) (fun c45 => ?_)
        · have hf := ifn c45 hf
          refine g_iconst C dX2_isSame_430 431 rfl ic_0 ?_
          refine g_Q hQ ?_
          exact g_zret C hr (Or.inl rfl) (by cases hf; rfl) (by omega) (by omega) dX2_isSame_431
        · have hf := ifp c45 hf
          refine g_aload_n C dX2_isSame_396 397 rfl 1 rfl ?_
          obtain ⟨x46, e47, hf⟩ := bd1_s hf
          refine g_callV1 C (m_X1_meanAlertness hfl (g := g) (h1 := h1) (h2 := h2) e47) cf_X1_meanAlertness gX2_isSame_X1_meanAlertness ⟨Nat.le_of_ble_eq_true rfl, Nat.le_of_ble_eq_true rfl⟩ (q0 := 0) (As := []) (rest := []) (wl := []) (wr := wS cyI cyJ z h u) (c2 := cells) (s2 := slots) rfl rfl rfl rfl rfl rfl (Nat.le_of_ble_eq_true rfl) rfl rfl ⟨(by show _ ≤ 403; omega), (by show _ ≤ 2418; omega)⟩ dX2_isSame_397 400 rfl (ws2 := wC g h1 h2 ++ (wB cyI h1 b1 ++ (wB cyI h2 b2 ++ wS cyI cyJ z h u))) rfl (st2 := [.double x46]) rfl ?_
          refine g_aload_n C dX2_isSame_400 401 rfl 0 rfl ?_
          refine g_get C iX2 23 rfl rfl 3 (by decide) kw5 rfl rfl dX2_isSame_401 404 rfl ?_
          refine g_alen C 24 2 rfl rfl (v := (nI (nG u))) rfl dX2_isSame_404 405 rfl ?_
          refine jo1_s (P := fun (j49 : UInt64) => Gq p l e rm_X2_isSame s m args below meth c D A 8 Q (wC g h1 h2 ++ (wB cyI h1 b1 ++ (wB cyI h2 b2 ++ wS cyI cyJ z h u))) cells slots 422 [] [.double j49, .double x46]) hf (fun j49 hf => ?_) (fun K48 hK48 hf => ?_)
          · refine g_dcmp C dX2_isSame_422 423 rfl ?_
            refine g_if_ne C dX2_isSame_423 430 426 (by decide) rfl (fun c50 => ?_) (fun c50 => ?_)
            · have hf := ifn c50 hf
              refine g_iconst C dX2_isSame_430 431 rfl ic_0 ?_
              refine g_Q hQ ?_
              exact g_zret C hr (Or.inl rfl) (by cases hf; rfl) (by omega) (by omega) dX2_isSame_431
            · have hf := ifp c50 hf
              refine g_iconst C dX2_isSame_426 427 rfl ic_1 ?_
              refine g_goto C dX2_isSame_427 431 (by decide) ?_
              refine g_Q hQ ?_
              exact g_zret C hr (Or.inr rfl) (by cases hf; rfl) (by omega) (by omega) dX2_isSame_431
          · refine g_if_ne C dX2_isSame_405 412 408 (by decide) rfl (fun c51 => ?_) (fun c51 => ?_)
            · have hf := ifn c51 hf
              refine g_iload C dX2_isSame_412 414 rfl 3 rfl ?_
              refine g_i2d C dX2_isSame_414 415 rfl ?_
              refine g_aload_n C dX2_isSame_415 416 rfl 0 rfl ?_
              refine g_get C iX2 23 rfl rfl 3 (by decide) kw5 rfl rfl dX2_isSame_416 419 rfl ?_
              refine g_alen C 24 2 rfl rfl (v := (nI (nG u))) rfl dX2_isSame_419 420 rfl ?_
              refine g_i2d C dX2_isSame_420 421 rfl ?_
              obtain ⟨_, e52, hf⟩ := bd1_s hf
              refine g_ddiv C (nn_s e52) dX2_isSame_421 422 rfl ?_
              refine g_lv [] (lv' := []) rfl ?_
              exact hK48 (FP.ddiv (FP.i2d l4) (FP.i2d (nI (nG u)))) hf
            · have hf := ifp c51 hf
              refine g_dconst0 C dX2_isSame_408 409 rfl ?_
              refine g_goto C dX2_isSame_409 422 (by decide) ?_
              refine g_lv [] (lv' := []) rfl ?_
              exact hK48 FP.dconst0 hf
      · have hf := ifn c42 hf
        refine g_aload_n C dX2_isSame_257 258 rfl 0 rfl ?_
        refine g_get C iX2 23 rfl rfl 3 (by decide) kw5 rfl rfl dX2_isSame_258 261 rfl ?_
        refine g_iload C dX2_isSame_261 263 rfl 4 rfl ?_
        obtain ⟨_, e53, hf⟩ := bd1_s hf
        refine g_aaG C (wl := wC g h1 h2 ++ (wB cyI h1 b1 ++ wB cyI h2 b2)) (cyI := cyI) 2 rfl rfl e53 dX2_isSame_263 264 rfl ?_
        refine g_astore C dX2_isSame_264 266 rfl (by decide) (lv' := [(6, .ref (h 1 l5.toNatClampNeg)), (0, .ref z), (1, .ref g), (3, .int l3), (4, .int l4), (5, .int l5)]) rfl ?_
        refine g_iload_n C dX2_isSame_266 267 rfl 3 rfl ?_
        refine jo1_s (P := fun (j55 : Int32) => Gq p l e rm_X2_isSame s m args below meth c D A 8 Q (wC g h1 h2 ++ (wB cyI h1 b1 ++ (wB cyI h2 b2 ++ wS cyI cyJ z h u))) cells slots 288 [(0, .ref z), (1, .ref g), (3, .int j55), (4, .int l4), (5, .int l5), (6, .ref (h 1 l5.toNatClampNeg))] []) hf (fun j55 hf => ?_) (fun K54 hK54 hf => ?_)
        · refine g_iload C dX2_isSame_288 290 rfl 3 rfl ?_
          refine g_aload C dX2_isSame_290 292 rfl 5 rfl ?_
          refine g_iconst C dX2_isSame_292 293 rfl ic_0 ?_
          obtain ⟨x57, e56, hf⟩ := bd1_s hf
          refine g_rldG C (wl := wC g h1 h2 ++ (wB cyI h1 b1 ++ wB cyI h2 b2)) (cyJ := cyJ) 0 0 rfl rfl ⟨by decide, by unfold vp_in; decide⟩ e56 dX2_isSame_293 294 rfl ?_
          refine g_iadd C dX2_isSame_294 295 rfl ?_
          refine g_istore C dX2_isSame_295 297 rfl (by decide) (lv' := [(4, .int (l4 + x57)), (0, .ref z), (1, .ref g), (3, .int j55), (5, .int l5), (6, .ref (h 1 l5.toNatClampNeg))]) rfl ?_
          refine g_aload_n C dX2_isSame_297 298 rfl 2 rfl ?_
          refine g_iload C dX2_isSame_298 300 rfl 4 rfl ?_
          obtain ⟨x58, e59, hf⟩ := bz1_s hf
          refine g_callV1 C (m_X1_alertnessOf_r hfl (g := g) (h1 := h1) (h2 := h2) e59) cf_X1_alertnessOf gX2_isSame_X1_alertnessOf ⟨Nat.le_of_ble_eq_true rfl, Nat.le_of_ble_eq_true rfl⟩ (q0 := 0) (As := [.int l5]) (rest := []) (wl := []) (wr := wS cyI cyJ z h u) (c2 := cells + 1) (s2 := slots + 6) rfl rfl rfl rfl rfl rfl (Nat.le_of_ble_eq_true rfl) rfl rfl ⟨(by show _ ≤ 403; omega), (by show _ ≤ 2418; omega)⟩ dX2_isSame_300 303 rfl (ws2 := wC g h1 h2 ++ (wB cyI h1 b1 ++ (wB cyI h2 b2 ++ wS cyI cyJ z h u))) rfl (st2 := [.int x58]) rfl ?_
          refine g_aload C dX2_isSame_303 305 rfl 5 rfl ?_
          refine g_iconst C dX2_isSame_305 306 rfl ic_0 ?_
          obtain ⟨x62, e61, hf⟩ := bd1_s hf
          refine g_rldG C (wl := wC g h1 h2 ++ (wB cyI h1 b1 ++ wB cyI h2 b2)) (cyJ := cyJ) 0 0 rfl rfl ⟨by decide, by unfold vp_in; decide⟩ e61 dX2_isSame_306 307 rfl ?_
          refine g_icmp_ne C dX2_isSame_307 336 310 (by decide) rfl (fun c63 => ?_) (fun c63 => ?_)
          · have hf := ifn c63 hf
            refine g_iconst C dX2_isSame_336 337 rfl ic_0 ?_
            refine g_Q hQ ?_
            exact g_zret C hr (Or.inl rfl) (by cases hf; rfl) (by omega) (by omega) dX2_isSame_337
          · have hf := ifp c63 hf
            refine g_aload_n C dX2_isSame_310 311 rfl 2 rfl ?_
            refine g_iload C dX2_isSame_311 313 rfl 4 rfl ?_
            obtain ⟨x64, e65, hf⟩ := bz1_s hf
            refine g_callV1 C (m_X1_searches_r hfl (g := g) (h1 := h1) (h2 := h2) e65) cf_X1_searches gX2_isSame_X1_searches ⟨Nat.le_of_ble_eq_true rfl, Nat.le_of_ble_eq_true rfl⟩ (q0 := 0) (As := [.int l5]) (rest := []) (wl := []) (wr := wS cyI cyJ z h u) (c2 := cells + 2) (s2 := slots + 12) rfl rfl rfl rfl rfl rfl (Nat.le_of_ble_eq_true rfl) rfl rfl ⟨(by show _ ≤ 403; omega), (by show _ ≤ 2418; omega)⟩ dX2_isSame_313 316 rfl (ws2 := wC g h1 h2 ++ (wB cyI h1 b1 ++ (wB cyI h2 b2 ++ wS cyI cyJ z h u))) rfl (st2 := [.int x64]) rfl ?_
            refine g_aload C dX2_isSame_316 318 rfl 5 rfl ?_
            refine g_iconst C dX2_isSame_318 319 rfl ic_1 ?_
            obtain ⟨x68, e67, hf⟩ := bd1_s hf
            refine g_rldG C (wl := wC g h1 h2 ++ (wB cyI h1 b1 ++ wB cyI h2 b2)) (cyJ := cyJ) 1 0 rfl rfl ⟨by decide, by unfold vp_in; decide⟩ e67 dX2_isSame_319 320 rfl ?_
            refine g_icmp_ne C dX2_isSame_320 336 323 (by decide) rfl (fun c69 => ?_) (fun c69 => ?_)
            · have hf := ifn c69 hf
              refine g_iconst C dX2_isSame_336 337 rfl ic_0 ?_
              refine g_Q hQ ?_
              exact g_zret C hr (Or.inl rfl) (by cases hf; rfl) (by omega) (by omega) dX2_isSame_337
            · have hf := ifp c69 hf
              refine g_aload_n C dX2_isSame_323 324 rfl 2 rfl ?_
              refine g_iload C dX2_isSame_324 326 rfl 4 rfl ?_
              obtain ⟨x70, e71, hf⟩ := bz1_s hf
              refine g_callV1 C (m_X1_minutesToGo_r hfl (g := g) (h1 := h1) (h2 := h2) e71) cf_X1_minutesToGo gX2_isSame_X1_minutesToGo ⟨Nat.le_of_ble_eq_true rfl, Nat.le_of_ble_eq_true rfl⟩ (q0 := 0) (As := [.int l5]) (rest := []) (wl := []) (wr := wS cyI cyJ z h u) (c2 := cells + 3) (s2 := slots + 18) rfl rfl rfl rfl rfl rfl (Nat.le_of_ble_eq_true rfl) rfl rfl ⟨(by show _ ≤ 403; omega), (by show _ ≤ 2418; omega)⟩ dX2_isSame_326 329 rfl (ws2 := wC g h1 h2 ++ (wB cyI h1 b1 ++ (wB cyI h2 b2 ++ wS cyI cyJ z h u))) rfl (st2 := [.int x70]) rfl ?_
              refine g_aload C dX2_isSame_329 331 rfl 5 rfl ?_
              refine g_iconst C dX2_isSame_331 332 rfl ic_2 ?_
              obtain ⟨x74, e73, hf⟩ := bd1_s hf
              refine g_rldG C (wl := wC g h1 h2 ++ (wB cyI h1 b1 ++ wB cyI h2 b2)) (cyJ := cyJ) 2 0 rfl rfl ⟨by decide, by unfold vp_in; decide⟩ e73 dX2_isSame_332 333 rfl ?_
              refine g_icmp_eq C dX2_isSame_333 338 336 (by decide) rfl (fun c75 => ?_) (fun c75 => ?_)
              · have hf := ifp c75 hf
                refine g_iconst C dX2_isSame_338 339 rfl ic_0 ?_
                refine g_istore C dX2_isSame_339 341 rfl (by decide) (lv' := [(7, .int 0), (4, .int (l4 + x57)), (0, .ref z), (1, .ref g), (3, .int j55), (5, .int l5), (6, .ref (h 1 l5.toNatClampNeg))]) rfl ?_
                refine g_lv [2, 3, 4, 1, 5, 6, 0] (lv' := [(0, .ref z), (1, .ref g), (3, .int j55), (4, .int (l4 + x57)), (5, .int l5), (6, .ref (h 1 l5.toNatClampNeg)), (7, .int 0)]) rfl ?_
                refine L341 j55 (l4 + x57) l5 (cells + 55) (slots + 330) (by omega) (by omega) _ (fun hf => ?_) 25 0 (cells + 3) (slots + 18) (by omega) (by omega) hf
                refine g_iinc C dX2_isSame_382 385 rfl 4 rfl (ii_1 _) (by decide) (lv' := [(5, .int (l5 + 1)), (0, .ref z), (1, .ref g), (3, .int j55), (4, .int (l4 + x57))]) rfl ?_
                refine g_goto C dX2_isSame_385 247 (by decide) ?_
                refine g_lv [1, 2, 3, 4, 0] (lv' := [(0, .ref z), (1, .ref g), (3, .int j55), (4, .int (l4 + x57)), (5, .int (l5 + 1))]) rfl ?_
                exact ih j55 (l4 + x57) (l5 + 1) (cells + 55) (slots + 330) (by omega) (by omega) hf
              · have hf := ifn c75 hf
                refine g_iconst C dX2_isSame_336 337 rfl ic_0 ?_
                refine g_Q hQ ?_
                exact g_zret C hr (Or.inl rfl) (by cases hf; rfl) (by omega) (by omega) dX2_isSame_337
        · refine g_if_lt C dX2_isSame_267 285 270 (by decide) rfl (fun c84 => ?_) (fun c84 => ?_)
          · have hf := ifp c84 hf
            refine g_iload C dX2_isSame_285 287 rfl 5 rfl ?_
            refine g_istore_n C dX2_isSame_287 288 rfl (by decide) (lv' := [(3, .int l5), (6, .ref (h 1 l5.toNatClampNeg)), (0, .ref z), (1, .ref g), (4, .int l4), (5, .int l5)]) rfl ?_
            refine g_lv [2, 3, 0, 4, 5, 1] (lv' := [(0, .ref z), (1, .ref g), (3, .int l5), (4, .int l4), (5, .int l5), (6, .ref (h 1 l5.toNatClampNeg))]) rfl ?_
            exact hK54 l5 hf
          · have hf := ifn c84 hf
            refine g_aload C dX2_isSame_270 272 rfl 0 rfl ?_
            refine g_iconst C dX2_isSame_272 273 rfl ic_0 ?_
            obtain ⟨x86, e85, hf⟩ := bd1_s hf
            refine g_rldG C (wl := wC g h1 h2 ++ (wB cyI h1 b1 ++ wB cyI h2 b2)) (cyJ := cyJ) 0 0 rfl rfl ⟨by decide, by unfold vp_in; decide⟩ e85 dX2_isSame_273 274 rfl ?_
            refine g_aload_n C dX2_isSame_274 275 rfl 1 rfl ?_
            refine g_get C iX2 23 rfl rfl 3 (by decide) kw5 rfl rfl dX2_isSame_275 278 rfl ?_
            refine g_iload_n C dX2_isSame_278 279 rfl 3 rfl ?_
            obtain ⟨_, e87, hf⟩ := bd1_s hf
            refine g_aaG C (wl := wC g h1 h2 ++ (wB cyI h1 b1 ++ wB cyI h2 b2)) (cyI := cyI) 2 rfl rfl e87 dX2_isSame_279 280 rfl ?_
            refine g_iconst C dX2_isSame_280 281 rfl ic_0 ?_
            obtain ⟨x89, e88, hf⟩ := bd1_s hf
            refine g_rldG C (wl := wC g h1 h2 ++ (wB cyI h1 b1 ++ wB cyI h2 b2)) (cyJ := cyJ) 0 0 rfl rfl ⟨by decide, by unfold vp_in; decide⟩ e88 dX2_isSame_281 282 rfl ?_
            refine g_icmp_le C dX2_isSame_282 288 285 (by decide) rfl (fun c90 => ?_) (fun c90 => ?_)
            · have hf := ifp c90 hf
              refine g_lv [1, 2, 3, 4, 5, 0] (lv' := [(0, .ref z), (1, .ref g), (3, .int l3), (4, .int l4), (5, .int l5), (6, .ref (h 1 l5.toNatClampNeg))]) rfl ?_
              exact hK54 l3 hf
            · have hf := ifn c90 hf
              refine g_iload C dX2_isSame_285 287 rfl 5 rfl ?_
              refine g_istore_n C dX2_isSame_287 288 rfl (by decide) (lv' := [(3, .int l5), (6, .ref (h 1 l5.toNatClampNeg)), (0, .ref z), (1, .ref g), (4, .int l4), (5, .int l5)]) rfl ?_
              refine g_lv [2, 3, 0, 4, 5, 1] (lv' := [(0, .ref z), (1, .ref g), (3, .int l5), (4, .int l4), (5, .int l5), (6, .ref (h 1 l5.toNatClampNeg))]) rfl ?_
              exact hK54 l5 hf
  have L121 : ∀ (n : Nat) (l2 : Int32) (l3 : Int32) (cells slots : Nat), cells + n * 5 + 278 ≤ 403 → slots + n * 30 + 1668 ≤ 2418 → X2_isSame_L121 b1 b2 u n l2 l3 = some rx → Gq p l e rm_X2_isSame s m args below meth c D A 8 Q (wC g h1 h2 ++ (wB cyI h1 b1 ++ (wB cyI h2 b2 ++ wS cyI cyJ z h u))) cells slots 121 [(0, .ref z), (1, .ref g), (2, .int l2), (3, .int l3)] [] := by
    intro n
    induction n with
    | zero => intro l2 l3 cells slots hc1 hc2 hf; simp [X2_isSame_L121] at hf
    | succ n ih =>
      intro l2 l3 cells slots hc1 hc2 hf
      rw [X2_isSame_L121] at hf
      refine g_iload_n C dX2_isSame_121 122 rfl 3 rfl ?_
      refine g_aload_n C dX2_isSame_122 123 rfl 0 rfl ?_
      refine g_get C iX2 23 rfl rfl 4 (by decide) kw2 rfl rfl dX2_isSame_123 126 rfl ?_
      refine g_alen C 25 2 rfl rfl (v := (nI (nT u))) rfl dX2_isSame_126 127 rfl ?_
      refine g_icmp_ge C dX2_isSame_127 239 130 (by decide) rfl (fun c41 => ?_) (fun c41 => ?_)
      · have hf := ifp c41 hf
        refine g_iconst C dX2_isSame_239 240 rfl ic_m1 ?_
        refine g_istore_n C dX2_isSame_240 241 rfl (by decide) (lv' := [(3, .int (-1)), (0, .ref z), (1, .ref g), (2, .int l2)]) rfl ?_
        refine g_iconst C dX2_isSame_241 242 rfl ic_0 ?_
        refine g_istore C dX2_isSame_242 244 rfl (by decide) (lv' := [(4, .int 0), (3, .int (-1)), (0, .ref z), (1, .ref g), (2, .int l2)]) rfl ?_
        refine g_iconst C dX2_isSame_244 245 rfl ic_0 ?_
        refine g_istore C dX2_isSame_245 247 rfl (by decide) (lv' := [(5, .int 0), (4, .int 0), (3, .int (-1)), (0, .ref z), (1, .ref g), (2, .int l2)]) rfl ?_
        refine g_lv [3, 4, 2, 1, 0] (lv' := [(0, .ref z), (1, .ref g), (3, .int (-1)), (4, .int 0), (5, .int 0)]) rfl ?_
        exact L247 5 (-1) 0 0 cells slots (by omega) (by omega) hf
      · have hf := ifn c41 hf
        refine g_aload_n C dX2_isSame_130 131 rfl 0 rfl ?_
        refine g_get C iX2 23 rfl rfl 4 (by decide) kw2 rfl rfl dX2_isSame_131 134 rfl ?_
        refine g_iload_n C dX2_isSame_134 135 rfl 3 rfl ?_
        obtain ⟨_, e91, hf⟩ := bd1_s hf
        refine g_aaT C (wl := wC g h1 h2 ++ (wB cyI h1 b1 ++ wB cyI h2 b2)) (cyI := cyI) 2 rfl rfl e91 dX2_isSame_135 136 rfl ?_
        refine g_astore C dX2_isSame_136 138 rfl (by decide) (lv' := [(4, .ref (h 2 l3.toNatClampNeg)), (0, .ref z), (1, .ref g), (2, .int l2), (3, .int l3)]) rfl ?_
        refine g_aload_n C dX2_isSame_138 139 rfl 2 rfl ?_
        refine g_iload_n C dX2_isSame_139 140 rfl 4 rfl ?_
        obtain ⟨x92, e93, hf⟩ := bz1_s hf
        refine g_callV1 C (m_X1_stateOf_r hfl (g := g) (h1 := h1) (h2 := h2) e93) cf_X1_stateOf gX2_isSame_X1_stateOf ⟨Nat.le_of_ble_eq_true rfl, Nat.le_of_ble_eq_true rfl⟩ (q0 := 0) (As := [.int l3]) (rest := []) (wl := []) (wr := wS cyI cyJ z h u) (c2 := cells + 1) (s2 := slots + 6) rfl rfl rfl rfl rfl rfl (Nat.le_of_ble_eq_true rfl) rfl rfl ⟨(by show _ ≤ 403; omega), (by show _ ≤ 2418; omega)⟩ dX2_isSame_140 143 rfl (ws2 := wC g h1 h2 ++ (wB cyI h1 b1 ++ (wB cyI h2 b2 ++ wS cyI cyJ z h u))) rfl (st2 := [.int x92]) rfl ?_
        refine g_aload C dX2_isSame_143 145 rfl 0 rfl ?_
        refine g_iconst C dX2_isSame_145 146 rfl ic_4 ?_
        obtain ⟨x96, e95, hf⟩ := bd1_s hf
        refine g_rldT C (wl := wC g h1 h2 ++ (wB cyI h1 b1 ++ wB cyI h2 b2)) (cyJ := cyJ) 4 0 rfl rfl ⟨by decide, by unfold vp_in; decide⟩ e95 dX2_isSame_146 147 rfl ?_
        refine g_icmp_ne C dX2_isSame_147 216 150 (by decide) rfl (fun c97 => ?_) (fun c97 => ?_)
        · have hf := ifn c97 hf
          refine g_iconst C dX2_isSame_216 217 rfl ic_0 ?_
          refine g_Q hQ ?_
          exact g_zret C hr (Or.inl rfl) (by cases hf; rfl) (by omega) (by omega) dX2_isSame_217
        · have hf := ifp c97 hf
          refine g_aload_n C dX2_isSame_150 151 rfl 2 rfl ?_
          refine g_iload_n C dX2_isSame_151 152 rfl 4 rfl ?_
          obtain ⟨x98, e99, hf⟩ := bz1_s hf
          refine g_callV1 C (m_X1_hiddenOf_r hfl (g := g) (h1 := h1) (h2 := h2) e99) cf_X1_hiddenOf gX2_isSame_X1_hiddenOf ⟨Nat.le_of_ble_eq_true rfl, Nat.le_of_ble_eq_true rfl⟩ (q0 := 0) (As := [.int l3]) (rest := []) (wl := []) (wr := wS cyI cyJ z h u) (c2 := cells + 2) (s2 := slots + 12) rfl rfl rfl rfl rfl rfl (Nat.le_of_ble_eq_true rfl) rfl rfl ⟨(by show _ ≤ 403; omega), (by show _ ≤ 2418; omega)⟩ dX2_isSame_152 155 rfl (ws2 := wC g h1 h2 ++ (wB cyI h1 b1 ++ (wB cyI h2 b2 ++ wS cyI cyJ z h u))) rfl (st2 := [.int x98]) rfl ?_
          refine g_aload C dX2_isSame_155 157 rfl 0 rfl ?_
          obtain ⟨x101, e102, hf⟩ := bd1_s hf
          refine g_callS1 C (m_X2_hidden hfl (z := z) (h := h) e102) cf_X2_hidden gX2_isSame_X2_hidden ⟨Nat.le_of_ble_eq_true rfl, Nat.le_of_ble_eq_true rfl⟩ (As := [.ref (h 2 l3.toNatClampNeg)]) (rest := [.int x98]) (wl := wC g h1 h2 ++ (wB cyI h1 b1 ++ wB cyI h2 b2)) (wr := []) (c2 := cells + 2) (s2 := slots + 12) (by rw [List.append_nil] <;> rfl) rfl rfl (Nat.le_of_ble_eq_true rfl) rfl rfl ⟨(by show _ ≤ 403; omega), (by show _ ≤ 2418; omega)⟩ dX2_isSame_157 160 rfl (ws2 := wC g h1 h2 ++ (wB cyI h1 b1 ++ (wB cyI h2 b2 ++ wS cyI cyJ z h u))) (by rw [List.append_nil] <;> rfl) (st2 := [.int x101, .int x98]) rfl ?_
          refine g_icmp_ne C dX2_isSame_160 216 163 (by decide) rfl (fun c103 => ?_) (fun c103 => ?_)
          · have hf := ifn c103 hf
            refine g_iconst C dX2_isSame_216 217 rfl ic_0 ?_
            refine g_Q hQ ?_
            exact g_zret C hr (Or.inl rfl) (by cases hf; rfl) (by omega) (by omega) dX2_isSame_217
          · have hf := ifp c103 hf
            refine g_aload_n C dX2_isSame_163 164 rfl 2 rfl ?_
            refine g_iload_n C dX2_isSame_164 165 rfl 4 rfl ?_
            obtain ⟨x104, e105, hf⟩ := bz1_s hf
            refine g_callV1 C (m_X1_lullabyOf_r hfl (g := g) (h1 := h1) (h2 := h2) e105) cf_X1_lullabyOf gX2_isSame_X1_lullabyOf ⟨Nat.le_of_ble_eq_true rfl, Nat.le_of_ble_eq_true rfl⟩ (q0 := 0) (As := [.int l3]) (rest := []) (wl := []) (wr := wS cyI cyJ z h u) (c2 := cells + 3) (s2 := slots + 18) rfl rfl rfl rfl rfl rfl (Nat.le_of_ble_eq_true rfl) rfl rfl ⟨(by show _ ≤ 403; omega), (by show _ ≤ 2418; omega)⟩ dX2_isSame_165 168 rfl (ws2 := wC g h1 h2 ++ (wB cyI h1 b1 ++ (wB cyI h2 b2 ++ wS cyI cyJ z h u))) rfl (st2 := [.int x104]) rfl ?_
            refine g_aload C dX2_isSame_168 170 rfl 0 rfl ?_
            refine g_iconst C dX2_isSame_170 171 rfl ic_3 ?_
            obtain ⟨x108, e107, hf⟩ := bd1_s hf
            refine g_rldT C (wl := wC g h1 h2 ++ (wB cyI h1 b1 ++ wB cyI h2 b2)) (cyJ := cyJ) 3 0 rfl rfl ⟨by decide, by unfold vp_in; decide⟩ e107 dX2_isSame_171 172 rfl ?_
            refine g_icmp_ne C dX2_isSame_172 216 175 (by decide) rfl (fun c109 => ?_) (fun c109 => ?_)
            · have hf := ifn c109 hf
              refine g_iconst C dX2_isSame_216 217 rfl ic_0 ?_
              refine g_Q hQ ?_
              exact g_zret C hr (Or.inl rfl) (by cases hf; rfl) (by omega) (by omega) dX2_isSame_217
            · have hf := ifp c109 hf
              refine g_aload_n C dX2_isSame_175 176 rfl 2 rfl ?_
              refine g_iload_n C dX2_isSame_176 177 rfl 4 rfl ?_
              obtain ⟨x110, e111, hf⟩ := bz1_s hf
              refine g_callV1 C (m_X1_placeInLine_r hfl (g := g) (h1 := h1) (h2 := h2) e111) cf_X1_placeInLine gX2_isSame_X1_placeInLine ⟨Nat.le_of_ble_eq_true rfl, Nat.le_of_ble_eq_true rfl⟩ (q0 := 0) (As := [.int l3]) (rest := []) (wl := []) (wr := wS cyI cyJ z h u) (c2 := cells + 4) (s2 := slots + 24) rfl rfl rfl rfl rfl rfl (Nat.le_of_ble_eq_true rfl) rfl rfl ⟨(by show _ ≤ 403; omega), (by show _ ≤ 2418; omega)⟩ dX2_isSame_177 180 rfl (ws2 := wC g h1 h2 ++ (wB cyI h1 b1 ++ (wB cyI h2 b2 ++ wS cyI cyJ z h u))) rfl (st2 := [.int x110]) rfl ?_
              refine g_aload C dX2_isSame_180 182 rfl 0 rfl ?_
              refine g_iconst C dX2_isSame_182 183 rfl ic_4 ?_
              obtain ⟨x114, e113, hf⟩ := bd1_s hf
              refine g_rldT C (wl := wC g h1 h2 ++ (wB cyI h1 b1 ++ wB cyI h2 b2)) (cyJ := cyJ) 4 0 rfl rfl ⟨by decide, by unfold vp_in; decide⟩ e113 dX2_isSame_183 184 rfl ?_
              refine jo1_s (P := fun (j116 : Int32) => Gq p l e rm_X2_isSame s m args below meth c D A 8 Q (wC g h1 h2 ++ (wB cyI h1 b1 ++ (wB cyI h2 b2 ++ wS cyI cyJ z h u))) (cells + 4) (slots + 24) 192 [(0, .ref z), (1, .ref g), (2, .int l2), (3, .int l3), (4, .ref (h 2 l3.toNatClampNeg))] [.int j116, .int x110]) hf (fun j116 hf => ?_) (fun K115 hK115 hf => ?_)
              · refine g_icmp_ne C dX2_isSame_192 216 195 (by decide) rfl (fun c117 => ?_) (fun c117 => ?_)
                · have hf := ifn c117 hf
                  refine g_iconst C dX2_isSame_216 217 rfl ic_0 ?_
                  refine g_Q hQ ?_
                  exact g_zret C hr (Or.inl rfl) (by cases hf; rfl) (by omega) (by omega) dX2_isSame_217
                · have hf := ifp c117 hf
                  refine g_aload_n C dX2_isSame_195 196 rfl 1 rfl ?_
                  refine g_iload_n C dX2_isSame_196 197 rfl 3 rfl ?_
                  obtain ⟨x118, e119, hf⟩ := bz1_s hf
                  refine g_callV1 C (m_X1_searchTime_r hfl (g := g) (h1 := h1) (h2 := h2) e119) cf_X1_searchTime gX2_isSame_X1_searchTime ⟨Nat.le_of_ble_eq_true rfl, Nat.le_of_ble_eq_true rfl⟩ (q0 := 0) (As := [.int l3]) (rest := []) (wl := []) (wr := wS cyI cyJ z h u) (c2 := cells + 5) (s2 := slots + 30) rfl rfl rfl rfl rfl rfl (Nat.le_of_ble_eq_true rfl) rfl rfl ⟨(by show _ ≤ 403; omega), (by show _ ≤ 2418; omega)⟩ dX2_isSame_197 200 rfl (ws2 := wC g h1 h2 ++ (wB cyI h1 b1 ++ (wB cyI h2 b2 ++ wS cyI cyJ z h u))) rfl (st2 := [.int x118]) rfl ?_
                  refine g_iconst C dX2_isSame_200 201 rfl ic_2 ?_
                  refine g_aload C dX2_isSame_201 203 rfl 4 rfl ?_
                  refine g_iconst C dX2_isSame_203 204 rfl ic_1 ?_
                  obtain ⟨x122, e121, hf⟩ := bd1_s hf
                  refine g_rldT C (wl := wC g h1 h2 ++ (wB cyI h1 b1 ++ wB cyI h2 b2)) (cyJ := cyJ) 1 0 rfl rfl ⟨by decide, by unfold vp_in; decide⟩ e121 dX2_isSame_204 205 rfl ?_
                  refine g_iadd C dX2_isSame_205 206 rfl ?_
                  refine g_aload_n C dX2_isSame_206 207 rfl 0 rfl ?_
                  obtain ⟨x123, e124, hf⟩ := bd1_s hf
                  refine g_callV1 C (m_X2_noise hfl (z := z) (h := h) e124) cf_X2_noise gX2_isSame_X2_noise ⟨Nat.le_of_ble_eq_true rfl, Nat.le_of_ble_eq_true rfl⟩ (q0 := 0) (As := []) (rest := [.int (2 + x122), .int x118]) (wl := wC g h1 h2 ++ (wB cyI h1 b1 ++ wB cyI h2 b2)) (wr := []) (c2 := cells + 5) (s2 := slots + 30) rfl rfl rfl (by rw [List.append_nil] <;> rfl) rfl rfl (Nat.le_of_ble_eq_true rfl) rfl rfl ⟨(by show _ ≤ 403; omega), (by show _ ≤ 2418; omega)⟩ dX2_isSame_207 210 rfl (ws2 := wC g h1 h2 ++ (wB cyI h1 b1 ++ (wB cyI h2 b2 ++ wS cyI cyJ z h u))) (by rw [List.append_nil] <;> rfl) (st2 := [.int x123, .int (2 + x122), .int x118]) rfl ?_
                  refine g_iconst C dX2_isSame_210 211 rfl ic_4 ?_
                  refine g_idiv C (by decide) dX2_isSame_211 212 rfl ?_
                  refine g_iadd C dX2_isSame_212 213 rfl ?_
                  refine g_icmp_eq C dX2_isSame_213 218 216 (by decide) rfl (fun c125 => ?_) (fun c125 => ?_)
                  · have hf := ifp c125 hf
                    refine g_iload_n C dX2_isSame_218 219 rfl 2 rfl ?_
                    refine g_aload C dX2_isSame_219 221 rfl 4 rfl ?_
                    refine g_iconst C dX2_isSame_221 222 rfl ic_4 ?_
                    obtain ⟨x127, e126, hf⟩ := bd1_s hf
                    refine g_rldT C (wl := wC g h1 h2 ++ (wB cyI h1 b1 ++ wB cyI h2 b2)) (cyJ := cyJ) 4 0 rfl rfl ⟨by decide, by unfold vp_in; decide⟩ e126 dX2_isSame_222 223 rfl ?_
                    refine g_if_ne C dX2_isSame_223 230 226 (by decide) rfl (fun c128 => ?_) (fun c128 => ?_)
                    · have hf := ifn c128 hf
                      refine g_iconst C dX2_isSame_230 231 rfl ic_0 ?_
                      refine g_iadd C dX2_isSame_231 232 rfl ?_
                      refine g_istore_n C dX2_isSame_232 233 rfl (by decide) (lv' := [(2, .int (l2 + 0)), (0, .ref z), (1, .ref g), (3, .int l3), (4, .ref (h 2 l3.toNatClampNeg))]) rfl ?_
                      refine g_iinc C dX2_isSame_233 236 rfl 3 rfl (ii_1 _) (by decide) (lv' := [(3, .int (l3 + 1)), (2, .int (l2 + 0)), (0, .ref z), (1, .ref g), (4, .ref (h 2 l3.toNatClampNeg))]) rfl ?_
                      refine g_goto C dX2_isSame_236 121 (by decide) ?_
                      refine g_lv [2, 3, 1, 0] (lv' := [(0, .ref z), (1, .ref g), (2, .int (l2 + 0)), (3, .int (l3 + 1))]) rfl ?_
                      exact ih (l2 + 0) (l3 + 1) (cells + 5) (slots + 30) (by omega) (by omega) hf
                    · have hf := ifp c128 hf
                      refine g_iconst C dX2_isSame_226 227 rfl ic_1 ?_
                      refine g_goto C dX2_isSame_227 231 (by decide) ?_
                      refine g_iadd C dX2_isSame_231 232 rfl ?_
                      refine g_istore_n C dX2_isSame_232 233 rfl (by decide) (lv' := [(2, .int (l2 + 1)), (0, .ref z), (1, .ref g), (3, .int l3), (4, .ref (h 2 l3.toNatClampNeg))]) rfl ?_
                      refine g_iinc C dX2_isSame_233 236 rfl 3 rfl (ii_1 _) (by decide) (lv' := [(3, .int (l3 + 1)), (2, .int (l2 + 1)), (0, .ref z), (1, .ref g), (4, .ref (h 2 l3.toNatClampNeg))]) rfl ?_
                      refine g_goto C dX2_isSame_236 121 (by decide) ?_
                      refine g_lv [2, 3, 1, 0] (lv' := [(0, .ref z), (1, .ref g), (2, .int (l2 + 1)), (3, .int (l3 + 1))]) rfl ?_
                      exact ih (l2 + 1) (l3 + 1) (cells + 5) (slots + 30) (by omega) (by omega) hf
                  · have hf := ifn c125 hf
                    refine g_iconst C dX2_isSame_216 217 rfl ic_0 ?_
                    refine g_Q hQ ?_
                    exact g_zret C hr (Or.inl rfl) (by cases hf; rfl) (by omega) (by omega) dX2_isSame_217
              · refine g_if_ne C dX2_isSame_184 191 187 (by decide) rfl (fun c129 => ?_) (fun c129 => ?_)
                · have hf := ifn c129 hf
                  refine g_iconst C dX2_isSame_191 192 rfl ic_m1 ?_
                  refine g_lv [1, 2, 3, 4, 0] (lv' := [(0, .ref z), (1, .ref g), (2, .int l2), (3, .int l3), (4, .ref (h 2 l3.toNatClampNeg))]) rfl ?_
                  exact hK115 (-1) hf
                · have hf := ifp c129 hf
                  refine g_iload_n C dX2_isSame_187 188 rfl 3 rfl ?_
                  refine g_goto C dX2_isSame_188 192 (by decide) ?_
                  refine g_lv [1, 2, 3, 4, 0] (lv' := [(0, .ref z), (1, .ref g), (2, .int l2), (3, .int l3), (4, .ref (h 2 l3.toNatClampNeg))]) rfl ?_
                  exact hK115 l2 hf
  unfold X2_isSame at hf
  refine g_lve (lv' := [(0, .ref z), (1, .ref g)]) rfl ?_
  refine g_aload_n C dX2_isSame_0 1 rfl 1 rfl ?_
  obtain ⟨x1, e2, hf⟩ := bd1_s hf
  refine g_callV1 C (m_X1_minute hfl (g := g) (h1 := h1) (h2 := h2) e2) cf_X1_minute gX2_isSame_X1_minute ⟨Nat.le_of_ble_eq_true rfl, Nat.le_of_ble_eq_true rfl⟩ (q0 := 0) (As := []) (rest := []) (wl := []) (wr := wS cyI cyJ z h u) (c2 := 0) (s2 := 0) rfl rfl rfl rfl rfl rfl (Nat.le_of_ble_eq_true rfl) rfl rfl ⟨Nat.le_of_ble_eq_true rfl, Nat.le_of_ble_eq_true rfl⟩ dX2_isSame_1 4 rfl (ws2 := wC g h1 h2 ++ (wB cyI h1 b1 ++ (wB cyI h2 b2 ++ wS cyI cyJ z h u))) rfl (st2 := [.int x1]) rfl ?_
  refine g_aload_n C dX2_isSame_4 5 rfl 0 rfl ?_
  refine g_get C iX2 23 rfl rfl 0 (by decide) kw0 rfl rfl dX2_isSame_5 8 rfl ?_
  refine g_icmp_ne C dX2_isSame_8 115 11 (by decide) rfl (fun c3 => ?_) (fun c3 => ?_)
  · have hf := ifn c3 hf
    refine g_iconst C dX2_isSame_115 116 rfl ic_0 ?_
    refine g_Q hQ ?_
    exact g_zret C hr (Or.inl rfl) (by cases hf; rfl) (Nat.le_of_ble_eq_true rfl) (Nat.le_of_ble_eq_true rfl) dX2_isSame_116
  · have hf := ifp c3 hf
    refine g_aload_n C dX2_isSame_11 12 rfl 1 rfl ?_
    obtain ⟨x4, e5, hf⟩ := bd1_s hf
    refine g_callV1 C (m_X1_travellers hfl (g := g) (h1 := h1) (h2 := h2) e5) cf_X1_travellers gX2_isSame_X1_travellers ⟨Nat.le_of_ble_eq_true rfl, Nat.le_of_ble_eq_true rfl⟩ (q0 := 0) (As := []) (rest := []) (wl := []) (wr := wS cyI cyJ z h u) (c2 := 0) (s2 := 0) rfl rfl rfl rfl rfl rfl (Nat.le_of_ble_eq_true rfl) rfl rfl ⟨Nat.le_of_ble_eq_true rfl, Nat.le_of_ble_eq_true rfl⟩ dX2_isSame_12 15 rfl (ws2 := wC g h1 h2 ++ (wB cyI h1 b1 ++ (wB cyI h2 b2 ++ wS cyI cyJ z h u))) rfl (st2 := [.int x4]) rfl ?_
    refine g_aload_n C dX2_isSame_15 16 rfl 0 rfl ?_
    refine g_get C iX2 23 rfl rfl 4 (by decide) kw2 rfl rfl dX2_isSame_16 19 rfl ?_
    refine g_alen C 25 2 rfl rfl (v := (nI (nT u))) rfl dX2_isSame_19 20 rfl ?_
    refine g_icmp_ne C dX2_isSame_20 115 23 (by decide) rfl (fun c6 => ?_) (fun c6 => ?_)
    · have hf := ifn c6 hf
      refine g_iconst C dX2_isSame_115 116 rfl ic_0 ?_
      refine g_Q hQ ?_
      exact g_zret C hr (Or.inl rfl) (by cases hf; rfl) (Nat.le_of_ble_eq_true rfl) (Nat.le_of_ble_eq_true rfl) dX2_isSame_116
    · have hf := ifp c6 hf
      refine g_aload_n C dX2_isSame_23 24 rfl 1 rfl ?_
      obtain ⟨x7, e8, hf⟩ := bd1_s hf
      refine g_callV1 C (m_X1_waiting hfl (g := g) (h1 := h1) (h2 := h2) e8) cf_X1_waiting gX2_isSame_X1_waiting ⟨Nat.le_of_ble_eq_true rfl, Nat.le_of_ble_eq_true rfl⟩ (q0 := 0) (As := []) (rest := []) (wl := []) (wr := wS cyI cyJ z h u) (c2 := 0) (s2 := 0) rfl rfl rfl rfl rfl rfl (Nat.le_of_ble_eq_true rfl) rfl rfl ⟨Nat.le_of_ble_eq_true rfl, Nat.le_of_ble_eq_true rfl⟩ dX2_isSame_24 27 rfl (ws2 := wC g h1 h2 ++ (wB cyI h1 b1 ++ (wB cyI h2 b2 ++ wS cyI cyJ z h u))) rfl (st2 := [.int x7]) rfl ?_
      refine g_aload_n C dX2_isSame_27 28 rfl 0 rfl ?_
      refine g_iconst C dX2_isSame_28 29 rfl ic_0 ?_
      obtain ⟨x9, e10, hf⟩ := bd1_s hf
      refine g_callV1 C (m_X2_count hfl (z := z) (h := h) e10) cf_X2_count gX2_isSame_X2_count ⟨Nat.le_of_ble_eq_true rfl, Nat.le_of_ble_eq_true rfl⟩ (q0 := 0) (As := [.int 0]) (rest := [.int x7]) (wl := wC g h1 h2 ++ (wB cyI h1 b1 ++ wB cyI h2 b2)) (wr := []) (c2 := 0) (s2 := 0) rfl rfl rfl (by rw [List.append_nil] <;> rfl) rfl rfl (Nat.le_of_ble_eq_true rfl) rfl rfl ⟨Nat.le_of_ble_eq_true rfl, Nat.le_of_ble_eq_true rfl⟩ dX2_isSame_29 32 rfl (ws2 := wC g h1 h2 ++ (wB cyI h1 b1 ++ (wB cyI h2 b2 ++ wS cyI cyJ z h u))) (by rw [List.append_nil] <;> rfl) (st2 := [.int x9, .int x7]) rfl ?_
      refine g_icmp_ne C dX2_isSame_32 115 35 (by decide) rfl (fun c11 => ?_) (fun c11 => ?_)
      · have hf := ifn c11 hf
        refine g_iconst C dX2_isSame_115 116 rfl ic_0 ?_
        refine g_Q hQ ?_
        exact g_zret C hr (Or.inl rfl) (by cases hf; rfl) (Nat.le_of_ble_eq_true rfl) (Nat.le_of_ble_eq_true rfl) dX2_isSame_116
      · have hf := ifp c11 hf
        refine g_aload_n C dX2_isSame_35 36 rfl 1 rfl ?_
        obtain ⟨x12, e13, hf⟩ := bd1_s hf
        refine g_callV1 C (m_X1_asleep hfl (g := g) (h1 := h1) (h2 := h2) e13) cf_X1_asleep gX2_isSame_X1_asleep ⟨Nat.le_of_ble_eq_true rfl, Nat.le_of_ble_eq_true rfl⟩ (q0 := 0) (As := []) (rest := []) (wl := []) (wr := wS cyI cyJ z h u) (c2 := 0) (s2 := 0) rfl rfl rfl rfl rfl rfl (Nat.le_of_ble_eq_true rfl) rfl rfl ⟨Nat.le_of_ble_eq_true rfl, Nat.le_of_ble_eq_true rfl⟩ dX2_isSame_36 39 rfl (ws2 := wC g h1 h2 ++ (wB cyI h1 b1 ++ (wB cyI h2 b2 ++ wS cyI cyJ z h u))) rfl (st2 := [.int x12]) rfl ?_
        refine g_aload_n C dX2_isSame_39 40 rfl 0 rfl ?_
        refine g_iconst C dX2_isSame_40 41 rfl ic_3 ?_
        obtain ⟨x14, e15, hf⟩ := bd1_s hf
        refine g_callV1 C (m_X2_count hfl (z := z) (h := h) e15) cf_X2_count gX2_isSame_X2_count ⟨Nat.le_of_ble_eq_true rfl, Nat.le_of_ble_eq_true rfl⟩ (q0 := 0) (As := [.int 3]) (rest := [.int x12]) (wl := wC g h1 h2 ++ (wB cyI h1 b1 ++ wB cyI h2 b2)) (wr := []) (c2 := 0) (s2 := 0) rfl rfl rfl (by rw [List.append_nil] <;> rfl) rfl rfl (Nat.le_of_ble_eq_true rfl) rfl rfl ⟨Nat.le_of_ble_eq_true rfl, Nat.le_of_ble_eq_true rfl⟩ dX2_isSame_41 44 rfl (ws2 := wC g h1 h2 ++ (wB cyI h1 b1 ++ (wB cyI h2 b2 ++ wS cyI cyJ z h u))) (by rw [List.append_nil] <;> rfl) (st2 := [.int x14, .int x12]) rfl ?_
        refine g_icmp_ne C dX2_isSame_44 115 47 (by decide) rfl (fun c16 => ?_) (fun c16 => ?_)
        · have hf := ifn c16 hf
          refine g_iconst C dX2_isSame_115 116 rfl ic_0 ?_
          refine g_Q hQ ?_
          exact g_zret C hr (Or.inl rfl) (by cases hf; rfl) (Nat.le_of_ble_eq_true rfl) (Nat.le_of_ble_eq_true rfl) dX2_isSame_116
        · have hf := ifp c16 hf
          refine g_aload_n C dX2_isSame_47 48 rfl 1 rfl ?_
          obtain ⟨x17, e18, hf⟩ := bd1_s hf
          refine g_callV1 C (m_X1_sentBack hfl (g := g) (h1 := h1) (h2 := h2) e18) cf_X1_sentBack gX2_isSame_X1_sentBack ⟨Nat.le_of_ble_eq_true rfl, Nat.le_of_ble_eq_true rfl⟩ (q0 := 0) (As := []) (rest := []) (wl := []) (wr := wS cyI cyJ z h u) (c2 := 0) (s2 := 0) rfl rfl rfl rfl rfl rfl (Nat.le_of_ble_eq_true rfl) rfl rfl ⟨Nat.le_of_ble_eq_true rfl, Nat.le_of_ble_eq_true rfl⟩ dX2_isSame_48 51 rfl (ws2 := wC g h1 h2 ++ (wB cyI h1 b1 ++ (wB cyI h2 b2 ++ wS cyI cyJ z h u))) rfl (st2 := [.int x17]) rfl ?_
          refine g_aload_n C dX2_isSame_51 52 rfl 0 rfl ?_
          refine g_iconst C dX2_isSame_52 53 rfl ic_4 ?_
          obtain ⟨x19, e20, hf⟩ := bd1_s hf
          refine g_callV1 C (m_X2_count hfl (z := z) (h := h) e20) cf_X2_count gX2_isSame_X2_count ⟨Nat.le_of_ble_eq_true rfl, Nat.le_of_ble_eq_true rfl⟩ (q0 := 0) (As := [.int 4]) (rest := [.int x17]) (wl := wC g h1 h2 ++ (wB cyI h1 b1 ++ wB cyI h2 b2)) (wr := []) (c2 := 0) (s2 := 0) rfl rfl rfl (by rw [List.append_nil] <;> rfl) rfl rfl (Nat.le_of_ble_eq_true rfl) rfl rfl ⟨Nat.le_of_ble_eq_true rfl, Nat.le_of_ble_eq_true rfl⟩ dX2_isSame_53 56 rfl (ws2 := wC g h1 h2 ++ (wB cyI h1 b1 ++ (wB cyI h2 b2 ++ wS cyI cyJ z h u))) (by rw [List.append_nil] <;> rfl) (st2 := [.int x19, .int x17]) rfl ?_
          refine g_icmp_ne C dX2_isSame_56 115 59 (by decide) rfl (fun c21 => ?_) (fun c21 => ?_)
          · have hf := ifn c21 hf
            refine g_iconst C dX2_isSame_115 116 rfl ic_0 ?_
            refine g_Q hQ ?_
            exact g_zret C hr (Or.inl rfl) (by cases hf; rfl) (Nat.le_of_ble_eq_true rfl) (Nat.le_of_ble_eq_true rfl) dX2_isSame_116
          · have hf := ifp c21 hf
            refine g_aload_n C dX2_isSame_59 60 rfl 1 rfl ?_
            obtain ⟨x22, e23, hf⟩ := bd1_s hf
            refine g_callV1 C (m_X1_expired hfl (g := g) (h1 := h1) (h2 := h2) e23) cf_X1_expired gX2_isSame_X1_expired ⟨Nat.le_of_ble_eq_true rfl, Nat.le_of_ble_eq_true rfl⟩ (q0 := 0) (As := []) (rest := []) (wl := []) (wr := wS cyI cyJ z h u) (c2 := 0) (s2 := 0) rfl rfl rfl rfl rfl rfl (Nat.le_of_ble_eq_true rfl) rfl rfl ⟨Nat.le_of_ble_eq_true rfl, Nat.le_of_ble_eq_true rfl⟩ dX2_isSame_60 63 rfl (ws2 := wC g h1 h2 ++ (wB cyI h1 b1 ++ (wB cyI h2 b2 ++ wS cyI cyJ z h u))) rfl (st2 := [.int x22]) rfl ?_
            refine g_aload_n C dX2_isSame_63 64 rfl 0 rfl ?_
            refine g_get C iX2 23 rfl rfl 1 (by decide) kw3 rfl rfl dX2_isSame_64 67 rfl ?_
            refine g_icmp_ne C dX2_isSame_67 115 70 (by decide) rfl (fun c24 => ?_) (fun c24 => ?_)
            · have hf := ifn c24 hf
              refine g_iconst C dX2_isSame_115 116 rfl ic_0 ?_
              refine g_Q hQ ?_
              exact g_zret C hr (Or.inl rfl) (by cases hf; rfl) (Nat.le_of_ble_eq_true rfl) (Nat.le_of_ble_eq_true rfl) dX2_isSame_116
            · have hf := ifp c24 hf
              refine g_aload_n C dX2_isSame_70 71 rfl 1 rfl ?_
              obtain ⟨x25, e26, hf⟩ := bd1_s hf
              refine g_callV1 C (m_X1_paid hfl (g := g) (h1 := h1) (h2 := h2) e26) cf_X1_paid gX2_isSame_X1_paid ⟨Nat.le_of_ble_eq_true rfl, Nat.le_of_ble_eq_true rfl⟩ (q0 := 0) (As := []) (rest := []) (wl := []) (wr := wS cyI cyJ z h u) (c2 := 0) (s2 := 0) rfl rfl rfl rfl rfl rfl (Nat.le_of_ble_eq_true rfl) rfl rfl ⟨Nat.le_of_ble_eq_true rfl, Nat.le_of_ble_eq_true rfl⟩ dX2_isSame_71 74 rfl (ws2 := wC g h1 h2 ++ (wB cyI h1 b1 ++ (wB cyI h2 b2 ++ wS cyI cyJ z h u))) rfl (st2 := [.int x25]) rfl ?_
              refine g_aload_n C dX2_isSame_74 75 rfl 0 rfl ?_
              refine g_get C iX2 23 rfl rfl 2 (by decide) kw4 rfl rfl dX2_isSame_75 78 rfl ?_
              refine g_icmp_ne C dX2_isSame_78 115 81 (by decide) rfl (fun c27 => ?_) (fun c27 => ?_)
              · have hf := ifn c27 hf
                refine g_iconst C dX2_isSame_115 116 rfl ic_0 ?_
                refine g_Q hQ ?_
                exact g_zret C hr (Or.inl rfl) (by cases hf; rfl) (Nat.le_of_ble_eq_true rfl) (Nat.le_of_ble_eq_true rfl) dX2_isSame_116
              · have hf := ifp c27 hf
                refine g_aload_n C dX2_isSame_81 82 rfl 1 rfl ?_
                obtain ⟨x28, e29, hf⟩ := bd1_s hf
                refine g_callV1 C (m_X1_noise hfl (g := g) (h1 := h1) (h2 := h2) e29) cf_X1_noise gX2_isSame_X1_noise ⟨Nat.le_of_ble_eq_true rfl, Nat.le_of_ble_eq_true rfl⟩ (q0 := 0) (As := []) (rest := []) (wl := []) (wr := wS cyI cyJ z h u) (c2 := 0) (s2 := 0) rfl rfl rfl rfl rfl rfl (Nat.le_of_ble_eq_true rfl) rfl rfl ⟨Nat.le_of_ble_eq_true rfl, Nat.le_of_ble_eq_true rfl⟩ dX2_isSame_82 85 rfl (ws2 := wC g h1 h2 ++ (wB cyI h1 b1 ++ (wB cyI h2 b2 ++ wS cyI cyJ z h u))) rfl (st2 := [.int x28]) rfl ?_
                refine g_aload_n C dX2_isSame_85 86 rfl 0 rfl ?_
                obtain ⟨x30, e31, hf⟩ := bd1_s hf
                refine g_callV1 C (m_X2_noise hfl (z := z) (h := h) e31) cf_X2_noise gX2_isSame_X2_noise ⟨Nat.le_of_ble_eq_true rfl, Nat.le_of_ble_eq_true rfl⟩ (q0 := 0) (As := []) (rest := [.int x28]) (wl := wC g h1 h2 ++ (wB cyI h1 b1 ++ wB cyI h2 b2)) (wr := []) (c2 := 0) (s2 := 0) rfl rfl rfl (by rw [List.append_nil] <;> rfl) rfl rfl (Nat.le_of_ble_eq_true rfl) rfl rfl ⟨Nat.le_of_ble_eq_true rfl, Nat.le_of_ble_eq_true rfl⟩ dX2_isSame_86 89 rfl (ws2 := wC g h1 h2 ++ (wB cyI h1 b1 ++ (wB cyI h2 b2 ++ wS cyI cyJ z h u))) (by rw [List.append_nil] <;> rfl) (st2 := [.int x30, .int x28]) rfl ?_
                refine g_icmp_ne C dX2_isSame_89 115 92 (by decide) rfl (fun c32 => ?_) (fun c32 => ?_)
                · have hf := ifn c32 hf
                  refine g_iconst C dX2_isSame_115 116 rfl ic_0 ?_
                  refine g_Q hQ ?_
                  exact g_zret C hr (Or.inl rfl) (by cases hf; rfl) (Nat.le_of_ble_eq_true rfl) (Nat.le_of_ble_eq_true rfl) dX2_isSame_116
                · have hf := ifp c32 hf
                  refine g_aload_n C dX2_isSame_92 93 rfl 1 rfl ?_
                  obtain ⟨x33, e34, hf⟩ := bd1_s hf
                  refine g_callV1 C (m_X1_nextInLine hfl (g := g) (h1 := h1) (h2 := h2) e34) cf_X1_nextInLine gX2_isSame_X1_nextInLine ⟨Nat.le_of_ble_eq_true rfl, Nat.le_of_ble_eq_true rfl⟩ (q0 := 0) (As := []) (rest := []) (wl := []) (wr := wS cyI cyJ z h u) (c2 := 0) (s2 := 0) rfl rfl rfl rfl rfl rfl (Nat.le_of_ble_eq_true rfl) rfl rfl ⟨Nat.le_of_ble_eq_true rfl, Nat.le_of_ble_eq_true rfl⟩ dX2_isSame_93 96 rfl (ws2 := wC g h1 h2 ++ (wB cyI h1 b1 ++ (wB cyI h2 b2 ++ wS cyI cyJ z h u))) rfl (st2 := [.int x33]) rfl ?_
                  refine g_aload_n C dX2_isSame_96 97 rfl 0 rfl ?_
                  obtain ⟨x35, e36, hf⟩ := bd1_s hf
                  refine g_callV1 C (m_X2_next hfl (z := z) (h := h) e36) cf_X2_next gX2_isSame_X2_next ⟨Nat.le_of_ble_eq_true rfl, Nat.le_of_ble_eq_true rfl⟩ (q0 := 0) (As := []) (rest := [.int x33]) (wl := wC g h1 h2 ++ (wB cyI h1 b1 ++ wB cyI h2 b2)) (wr := []) (c2 := 0) (s2 := 0) rfl rfl rfl (by rw [List.append_nil] <;> rfl) rfl rfl (Nat.le_of_ble_eq_true rfl) rfl rfl ⟨Nat.le_of_ble_eq_true rfl, Nat.le_of_ble_eq_true rfl⟩ dX2_isSame_97 100 rfl (ws2 := wC g h1 h2 ++ (wB cyI h1 b1 ++ (wB cyI h2 b2 ++ wS cyI cyJ z h u))) (by rw [List.append_nil] <;> rfl) (st2 := [.int x35, .int x33]) rfl ?_
                  refine g_icmp_ne C dX2_isSame_100 115 103 (by decide) rfl (fun c37 => ?_) (fun c37 => ?_)
                  · have hf := ifn c37 hf
                    refine g_iconst C dX2_isSame_115 116 rfl ic_0 ?_
                    refine g_Q hQ ?_
                    exact g_zret C hr (Or.inl rfl) (by cases hf; rfl) (Nat.le_of_ble_eq_true rfl) (Nat.le_of_ble_eq_true rfl) dX2_isSame_116
                  · have hf := ifp c37 hf
                    refine g_aload_n C dX2_isSame_103 104 rfl 1 rfl ?_
                    obtain ⟨x38, e39, hf⟩ := bd1_s hf
                    refine g_callV1 C (m_X1_guards hfl (g := g) (h1 := h1) (h2 := h2) e39) cf_X1_guards gX2_isSame_X1_guards ⟨Nat.le_of_ble_eq_true rfl, Nat.le_of_ble_eq_true rfl⟩ (q0 := 0) (As := []) (rest := []) (wl := []) (wr := wS cyI cyJ z h u) (c2 := 0) (s2 := 0) rfl rfl rfl rfl rfl rfl (Nat.le_of_ble_eq_true rfl) rfl rfl ⟨Nat.le_of_ble_eq_true rfl, Nat.le_of_ble_eq_true rfl⟩ dX2_isSame_104 107 rfl (ws2 := wC g h1 h2 ++ (wB cyI h1 b1 ++ (wB cyI h2 b2 ++ wS cyI cyJ z h u))) rfl (st2 := [.int x38]) rfl ?_
                    refine g_aload_n C dX2_isSame_107 108 rfl 0 rfl ?_
                    refine g_get C iX2 23 rfl rfl 3 (by decide) kw5 rfl rfl dX2_isSame_108 111 rfl ?_
                    refine g_alen C 24 2 rfl rfl (v := (nI (nG u))) rfl dX2_isSame_111 112 rfl ?_
                    refine g_icmp_eq C dX2_isSame_112 117 115 (by decide) rfl (fun c40 => ?_) (fun c40 => ?_)
                    · have hf := ifp c40 hf
                      refine g_iconst C dX2_isSame_117 118 rfl ic_0 ?_
                      refine g_istore_n C dX2_isSame_118 119 rfl (by decide) (lv' := [(2, .int 0), (0, .ref z), (1, .ref g)]) rfl ?_
                      refine g_iconst C dX2_isSame_119 120 rfl ic_0 ?_
                      refine g_istore_n C dX2_isSame_120 121 rfl (by decide) (lv' := [(3, .int 0), (2, .int 0), (0, .ref z), (1, .ref g)]) rfl ?_
                      refine g_lv [2, 3, 1, 0] (lv' := [(0, .ref z), (1, .ref g), (2, .int 0), (3, .int 0)]) rfl ?_
                      exact L121 25 0 0 0 0 (Nat.le_of_ble_eq_true rfl) (Nat.le_of_ble_eq_true rfl) hf
                    · have hf := ifn c40 hf
                      refine g_iconst C dX2_isSame_115 116 rfl ic_0 ?_
                      refine g_Q hQ ?_
                      exact g_zret C hr (Or.inl rfl) (by cases hf; rfl) (Nat.le_of_ble_eq_true rfl) (Nat.le_of_ble_eq_true rfl) dX2_isSame_116
