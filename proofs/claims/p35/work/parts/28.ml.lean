/-! the machine does what the functions say (laid by wip/p35/gen) -/
abbrev rm_L_below : Room := { frames := 0, cells := 0, slots := 0, locals := 0 }
theorem cf_L_below : CF yL_below wsL_below rm_L_below cL_below 2 (some .int) 2 0 0 RL := ⟨⟨_, rfl⟩, rfl, rfl, rfl, by decide, by decide, by decide +kernel⟩
set_option maxHeartbeats 4000000 in
set_option maxRecDepth 100000 in
theorem m_L_below {l : Launch} (hfl : l.stackTraces = false) {D : va_G} {cyI cyZ cyJ : ClassId} {sc : SC}  {a0 : Int32} {a1 : Int32} {rx : Int32} (hf : L_below a0 a1 = some rx) : Ct (ev_s, sc) l yL_below wsL_below rm_L_below D (ty3 cyI cyZ cyJ) [.int a0, .int a1] ([]) (fun o => o = .inr (some (.int rx), [])) 0 0 := by
  refine ct_of (cc := cL_below) (nL := 2) (own := RL) (ret := (some .int)) hfl (by decide) rfl rfl (Nat.le_of_ble_eq_true rfl) (fun p e s m args below meth c A C hr hnm => ?_)
  refine g_setQ (fun Q hQ => ?_)
  have kw0 := Cx.w C (.constant RL 7 2147483647) (by decide +kernel)
  unfold L_below at hf
  refine g_lve (lv' := [(0, .int a0), (1, .int a1)]) rfl ?_
  refine g_iload_n C dL_below_0 1 rfl 0 rfl ?_
  refine g_ldc C (v := 2147483647) kw0 dL_below_1 3 rfl ?_
  refine g_iand C dL_below_3 4 rfl ?_
  refine g_iload_n C dL_below_4 5 rfl 1 rfl ?_
  obtain ⟨_, e1, hf⟩ := bd1_s hf
  refine g_irem C (nz_s e1) dL_below_5 6 rfl ?_
  refine g_Q hQ ?_
  exact g_iret C hr (by cases hf; rfl) (Nat.le_of_ble_eq_true rfl) (Nat.le_of_ble_eq_true rfl) dL_below_6
abbrev rm_L_cell : Room := { frames := 0, cells := 0, slots := 0, locals := 0 }
theorem cf_L_cell : CF yL_cell wsL_cell rm_L_cell cL_cell 2 (some .int) 2 0 0 RL := ⟨⟨_, rfl⟩, rfl, rfl, rfl, by decide, by decide, by decide +kernel⟩
set_option maxHeartbeats 4000000 in
set_option maxRecDepth 100000 in
theorem m_L_cell {l : Launch} (hfl : l.stackTraces = false) {D : va_G} {cyI cyZ cyJ : ClassId} {sc : SC}  {a0 : Int32} {rx : Int32} (hf : L_cell sc a0 = some rx) : Ct (ev_s, sc) l yL_cell wsL_cell rm_L_cell D (ty3 cyI cyZ cyJ) [.ref sc.1, .int a0] ([]) (fun o => o = .inr (some (.int rx), [])) 0 0 := by
  refine ct_of (cc := cL_cell) (nL := 2) (own := RL) (ret := (some .int)) hfl (by decide) rfl rfl (Nat.le_of_ble_eq_true rfl) (fun p e s m args below meth c A C hr hnm => ?_)
  refine g_setQ (fun Q hQ => ?_)
  have kw0 := Cx.w C (.constant RL 8 790386105) (by decide +kernel)
  unfold L_cell at hf
  refine g_lve (lv' := [(0, .ref sc.1), (1, .int a0)]) rfl ?_
  refine g_iload_n C dL_cell_0 1 rfl 1 rfl ?_
  refine g_aload_n C dL_cell_1 2 rfl 0 rfl ?_
  refine g_slen C dL_cell_2 3 rfl ?_
  refine g_icmp_ge C dL_cell_3 12 6 (by decide) rfl (fun c1 => ?_) (fun c1 => ?_)
  · have hf := ifp c1 hf
    refine g_ldc C (v := 790386105) kw0 dL_cell_12 14 rfl ?_
    refine g_iload_n C dL_cell_14 15 rfl 1 rfl ?_
    refine g_iconst C dL_cell_15 16 rfl ic_3 ?_
    refine g_iadd C dL_cell_16 17 rfl ?_
    refine g_imul C dL_cell_17 18 rfl ?_
    refine g_Q hQ ?_
    exact g_iret C hr (by cases hf; rfl) (Nat.le_of_ble_eq_true rfl) (Nat.le_of_ble_eq_true rfl) dL_cell_18
  · have hf := ifn c1 hf
    refine g_aload_n C dL_cell_6 7 rfl 0 rfl ?_
    refine g_iload_n C dL_cell_7 8 rfl 1 rfl ?_
    obtain ⟨x3, e2, hf⟩ := bd1_s hf
    refine g_sld C e2 dL_cell_8 9 rfl ?_
    refine g_goto C dL_cell_9 18 (by decide) ?_
    refine g_Q hQ ?_
    exact g_iret C hr (by cases hf; rfl) (Nat.le_of_ble_eq_true rfl) (Nat.le_of_ble_eq_true rfl) dL_cell_18
abbrev rm_L_act : Room := { frames := 8, cells := 62, slots := 494, locals := 126 }
theorem cf_L_act : CF yL_act wsL_act rm_L_act cL_act 13 (some .boolean) 3 62 494 RL := ⟨⟨_, rfl⟩, rfl, rfl, rfl, by decide, by decide, by decide +kernel⟩
set_option maxHeartbeats 4000000 in
set_option maxRecDepth 100000 in
theorem m_L_act {l : Launch} (hfl : l.stackTraces = false) {D : va_G} {cyI cyZ cyJ : ClassId} {sc : SC} {g : Nat} {h1 : Nat → Nat} {b1 : S2} {h2 : Nat → Nat} {b2 : S2} {z : Nat} {h : Nat → Nat → Nat} {u : S2} {a0 : Int32} {rx : Int32} {rb1 : S2} {ru : S2} (hf : L_act b1 b2 u a0 = some (rx, rb1, ru)) : Ct (ev_s, sc) l yL_act wsL_act rm_L_act D (ty3 cyI cyZ cyJ) [.ref g, .ref z, .int a0] (wC g h1 h2 ++ (wB cyI h1 b1 ++ (wB cyI h2 b2 ++ wS cyI cyJ z h u))) (fun o => ∃ h : Nat → Nat → Nat, o = .inr (some (.int rx), wC g h1 h2 ++ (wB cyI h1 rb1 ++ (wB cyI h2 b2 ++ wS cyI cyJ z h ru)))) 62 494 := by
  refine ct_of (cc := cL_act) (nL := 13) (own := RL) (ret := (some .boolean)) hfl (by decide) rfl rfl (Nat.le_of_ble_eq_true rfl) (fun p e s m args below meth c A C hr hnm => ?_)
  refine g_setQ (fun Q hQ => ?_)
  have kw0 := Cx.w C (.fieldLink RL 9 "SleepBorderLaw$Sim" "travellers" "[[I") (by decide +kernel)
  have iX2 : ∀ w ∈ u_ws RX2 TX2 5, w ∈ wsL_act := by decide +kernel
  have kw2 := Cx.w C (.fieldLink RL 15 "SleepBorderLaw$Sim" "guards" "[[I") (by decide +kernel)
  have kw3 := Cx.w C (.arrayClass .int) (by decide +kernel)
  unfold L_act at hf
  refine g_lve (lv' := [(0, .ref g), (1, .ref z), (2, .int a0)]) rfl ?_
  refine g_aload_n C dL_act_0 1 rfl 1 rfl ?_
  refine g_get C iX2 23 rfl rfl 4 (by decide) kw0 rfl rfl dL_act_1 4 rfl ?_
  refine g_alen C 25 2 rfl rfl (v := (nI (nT u))) rfl dL_act_4 5 rfl ?_
  refine g_istore_n C dL_act_5 6 rfl (by decide) (lv' := [(3, .int (nI (nT u))), (0, .ref g), (1, .ref z), (2, .int a0)]) rfl ?_
  refine g_aload_n C dL_act_6 7 rfl 2 rfl ?_
  refine g_get C iX2 23 rfl rfl 3 (by decide) kw2 rfl rfl dL_act_7 10 rfl ?_
  refine g_alen C 24 2 rfl rfl (v := (nI (nG u))) rfl dL_act_10 11 rfl ?_
  refine g_istore C dL_act_11 13 rfl (by decide) (lv' := [(4, .int (nI (nG u))), (3, .int (nI (nT u))), (0, .ref g), (1, .ref z), (2, .int a0)]) rfl ?_
  refine g_iload_n C dL_act_13 14 rfl 4 rfl ?_
  refine g_bipush C dL_act_14 16 rfl bp_9 ?_
  refine g_ishr C dL_act_16 17 rfl ?_
  refine g_bipush C dL_act_17 19 rfl bp_16 ?_
  obtain ⟨x1, e2, hf⟩ := bd1_s hf
  refine g_callS1 C (m_L_below hfl  e2) cf_L_below gL_act_L_below ⟨Nat.le_of_ble_eq_true rfl, Nat.le_of_ble_eq_true rfl⟩ (As := [.int (a0 >>> ((9 : Int32) &&& 31)), .int 16]) (rest := []) (wl := []) (wr := wC g h1 h2 ++ (wB cyI h1 b1 ++ (wB cyI h2 b2 ++ wS cyI cyJ z h u))) (c2 := 0) (s2 := 0) rfl rfl rfl (Nat.le_of_ble_eq_true rfl) rfl rfl ⟨Nat.le_of_ble_eq_true rfl, Nat.le_of_ble_eq_true rfl⟩ dL_act_19 22 rfl (ws2 := wC g h1 h2 ++ (wB cyI h1 b1 ++ (wB cyI h2 b2 ++ wS cyI cyJ z h u))) rfl (st2 := [.int x1]) rfl ?_
  refine g_istore C dL_act_22 24 rfl (by decide) (lv' := [(5, .int x1), (4, .int (nI (nG u))), (3, .int (nI (nT u))), (0, .ref g), (1, .ref z), (2, .int a0)]) rfl ?_
  refine g_iload C dL_act_24 26 rfl 0 rfl ?_
  refine g_if_ne C dL_act_26 79 29 (by decide) rfl (fun c3 => ?_) (fun c3 => ?_)
  · have hf := ifn c3 hf
    refine g_iload_n C dL_act_79 80 rfl 2 rfl ?_
    refine jo0_s (P := Gq p l e rm_L_act s m args below meth c D A 13 Q (wC g h1 h2 ++ (wB cyI h1 b1 ++ (wB cyI h2 b2 ++ wS cyI cyJ z h u))) 0 0 89 [(0, .ref g), (1, .ref z), (2, .int a0), (3, .int (nI (nT u)))] []) hf (fun hf => ?_) (fun K4 hK4 hf => ?_)
    · refine g_iload_n C dL_act_89 90 rfl 3 rfl ?_
      refine g_bipush C dL_act_90 92 rfl bp_24 ?_
      refine g_icmp_ne C dL_act_92 97 95 (by decide) rfl (fun c5 => ?_) (fun c5 => ?_)
      · have hf := ifn c5 hf
        refine g_bipush C dL_act_97 99 rfl bp_6 ?_
        refine g_newa C (atype := .int) (a0 := (6, .inl (fun _ => 0))) (n := 6) kw3 rfl (fun _ h => by cases h) 0 rfl 6 (fun _ => rfl) (by decide) rfl (by decide) (c2 := 1) (s2 := 6) rfl rfl (Nat.le_of_ble_eq_true rfl) (Nat.le_of_ble_eq_true rfl) dL_act_99 101 rfl (fun z6 => ?_)
        refine g_perm (ws' := wC g h1 h2 ++ (wB cyI h1 b1 ++ (wB cyI h2 b2 ++ (wA cyI z6 6 (fun _ => 0) ++ wS cyI cyJ z h u)))) (wl := wC g h1 h2 ++ (wB cyI h1 b1 ++ wB cyI h2 b2)) (w1 := wS cyI cyJ z h u) (w2 := wA cyI z6 6 (fun _ => 0)) rfl rfl ?_
        refine g_dup C dL_act_101 102 rfl rfl ?_
        refine g_iconst C dL_act_102 103 rfl ic_0 ?_
        refine g_iload_n C dL_act_103 104 rfl 2 rfl ?_
        refine g_iconst C dL_act_104 105 rfl ic_1 ?_
        refine g_ishr C dL_act_105 106 rfl ?_
        refine g_bipush C dL_act_106 108 rfl bp_10 ?_
        obtain ⟨x9, e10, hf⟩ := bd1_s hf
        refine g_callS1 C (m_L_below hfl  e10) cf_L_below gL_act_L_below ⟨Nat.le_of_ble_eq_true rfl, Nat.le_of_ble_eq_true rfl⟩ (As := [.int (a0 >>> ((1 : Int32) &&& 31)), .int 10]) (rest := [.int 0, .ref z6, .ref z6]) (wl := []) (wr := wC g h1 h2 ++ (wB cyI h1 b1 ++ (wB cyI h2 b2 ++ (wA cyI z6 6 (fun _ => 0) ++ wS cyI cyJ z h u)))) (c2 := 1) (s2 := 6) rfl rfl rfl (Nat.le_of_ble_eq_true rfl) rfl rfl ⟨Nat.le_of_ble_eq_true rfl, Nat.le_of_ble_eq_true rfl⟩ dL_act_108 111 rfl (ws2 := wC g h1 h2 ++ (wB cyI h1 b1 ++ (wB cyI h2 b2 ++ (wA cyI z6 6 (fun _ => 0) ++ wS cyI cyJ z h u)))) rfl (st2 := [.int x9, .int 0, .ref z6, .ref z6]) rfl ?_
        obtain ⟨f7_12, e11, hf⟩ := bd1_s hf
        refine g_iast C 23 0 rfl rfl (stF_in e11) (st_19 (cyI := cyI) (cyZ := cyZ) (cyJ := cyJ) e11) dL_act_111 112 rfl ?_
        refine g_dup C dL_act_112 113 rfl rfl ?_
        refine g_iconst C dL_act_113 114 rfl ic_1 ?_
        refine g_iload_n C dL_act_114 115 rfl 2 rfl ?_
        refine g_iconst C dL_act_115 116 rfl ic_3 ?_
        refine g_ishr C dL_act_116 117 rfl ?_
        refine g_iload_n C dL_act_117 118 rfl 2 rfl ?_
        refine g_iconst C dL_act_118 119 rfl ic_2 ?_
        obtain ⟨x13, e14, hf⟩ := bd1_s hf
        refine g_callS1 C (m_L_below hfl  e14) cf_L_below gL_act_L_below ⟨Nat.le_of_ble_eq_true rfl, Nat.le_of_ble_eq_true rfl⟩ (As := [.int a0, .int 2]) (rest := [.int (a0 >>> ((3 : Int32) &&& 31)), .int 1, .ref z6, .ref z6]) (wl := []) (wr := wC g h1 h2 ++ (wB cyI h1 b1 ++ (wB cyI h2 b2 ++ (wA cyI z6 6 f7_12 ++ wS cyI cyJ z h u)))) (c2 := 1) (s2 := 6) rfl rfl rfl (Nat.le_of_ble_eq_true rfl) rfl rfl ⟨Nat.le_of_ble_eq_true rfl, Nat.le_of_ble_eq_true rfl⟩ dL_act_119 122 rfl (ws2 := wC g h1 h2 ++ (wB cyI h1 b1 ++ (wB cyI h2 b2 ++ (wA cyI z6 6 f7_12 ++ wS cyI cyJ z h u)))) rfl (st2 := [.int x13, .int (a0 >>> ((3 : Int32) &&& 31)), .int 1, .ref z6, .ref z6]) rfl ?_
        refine jo1_s (P := fun (j16 : Int32) => Gq p l e rm_L_act s m args below meth c D A 13 Q (wC g h1 h2 ++ (wB cyI h1 b1 ++ (wB cyI h2 b2 ++ (wA cyI z6 6 f7_12 ++ wS cyI cyJ z h u)))) 1 6 131 [(0, .ref g), (1, .ref z), (2, .int a0), (3, .int (nI (nT u)))] [.int j16, .int (a0 >>> ((3 : Int32) &&& 31)), .int 1, .ref z6, .ref z6]) hf (fun j16 hf => ?_) (fun K15 hK15 hf => ?_)
        · obtain ⟨x17, e18, hf⟩ := bd1_s hf
          refine g_callS1 C (m_L_below hfl  e18) cf_L_below gL_act_L_below ⟨Nat.le_of_ble_eq_true rfl, Nat.le_of_ble_eq_true rfl⟩ (As := [.int (a0 >>> ((3 : Int32) &&& 31)), .int j16]) (rest := [.int 1, .ref z6, .ref z6]) (wl := []) (wr := wC g h1 h2 ++ (wB cyI h1 b1 ++ (wB cyI h2 b2 ++ (wA cyI z6 6 f7_12 ++ wS cyI cyJ z h u)))) (c2 := 1) (s2 := 6) rfl rfl rfl (Nat.le_of_ble_eq_true rfl) rfl rfl ⟨Nat.le_of_ble_eq_true rfl, Nat.le_of_ble_eq_true rfl⟩ dL_act_131 134 rfl (ws2 := wC g h1 h2 ++ (wB cyI h1 b1 ++ (wB cyI h2 b2 ++ (wA cyI z6 6 f7_12 ++ wS cyI cyJ z h u)))) rfl (st2 := [.int x17, .int 1, .ref z6, .ref z6]) rfl ?_
          obtain ⟨f7_20, e19, hf⟩ := bd1_s hf
          refine g_iast C 23 0 rfl rfl (stF_in e19) (st_19 (cyI := cyI) (cyZ := cyZ) (cyJ := cyJ) e19) dL_act_134 135 rfl ?_
          refine g_dup C dL_act_135 136 rfl rfl ?_
          refine g_iconst C dL_act_136 137 rfl ic_2 ?_
          refine g_iload_n C dL_act_137 138 rfl 2 rfl ?_
          refine g_iconst C dL_act_138 139 rfl ic_5 ?_
          refine g_ishr C dL_act_139 140 rfl ?_
          refine g_bipush C dL_act_140 142 rfl bp_10 ?_
          obtain ⟨x21, e22, hf⟩ := bd1_s hf
          refine g_callS1 C (m_L_below hfl  e22) cf_L_below gL_act_L_below ⟨Nat.le_of_ble_eq_true rfl, Nat.le_of_ble_eq_true rfl⟩ (As := [.int (a0 >>> ((5 : Int32) &&& 31)), .int 10]) (rest := [.int 2, .ref z6, .ref z6]) (wl := []) (wr := wC g h1 h2 ++ (wB cyI h1 b1 ++ (wB cyI h2 b2 ++ (wA cyI z6 6 f7_20 ++ wS cyI cyJ z h u)))) (c2 := 1) (s2 := 6) rfl rfl rfl (Nat.le_of_ble_eq_true rfl) rfl rfl ⟨Nat.le_of_ble_eq_true rfl, Nat.le_of_ble_eq_true rfl⟩ dL_act_142 145 rfl (ws2 := wC g h1 h2 ++ (wB cyI h1 b1 ++ (wB cyI h2 b2 ++ (wA cyI z6 6 f7_20 ++ wS cyI cyJ z h u)))) rfl (st2 := [.int x21, .int 2, .ref z6, .ref z6]) rfl ?_
          obtain ⟨f7_24, e23, hf⟩ := bd1_s hf
          refine g_iast C 23 0 rfl rfl (stF_in e23) (st_19 (cyI := cyI) (cyZ := cyZ) (cyJ := cyJ) e23) dL_act_145 146 rfl ?_
          refine g_dup C dL_act_146 147 rfl rfl ?_
          refine g_iconst C dL_act_147 148 rfl ic_3 ?_
          refine g_iconst C dL_act_148 149 rfl ic_1 ?_
          refine g_iload_n C dL_act_149 150 rfl 2 rfl ?_
          refine g_bipush C dL_act_150 152 rfl bp_7 ?_
          refine g_ishr C dL_act_152 153 rfl ?_
          refine g_iload_n C dL_act_153 154 rfl 2 rfl ?_
          refine g_iconst C dL_act_154 155 rfl ic_3 ?_
          obtain ⟨x25, e26, hf⟩ := bd1_s hf
          refine g_callS1 C (m_L_below hfl  e26) cf_L_below gL_act_L_below ⟨Nat.le_of_ble_eq_true rfl, Nat.le_of_ble_eq_true rfl⟩ (As := [.int a0, .int 3]) (rest := [.int (a0 >>> ((7 : Int32) &&& 31)), .int 1, .int 3, .ref z6, .ref z6]) (wl := []) (wr := wC g h1 h2 ++ (wB cyI h1 b1 ++ (wB cyI h2 b2 ++ (wA cyI z6 6 f7_24 ++ wS cyI cyJ z h u)))) (c2 := 1) (s2 := 6) rfl rfl rfl (Nat.le_of_ble_eq_true rfl) rfl rfl ⟨Nat.le_of_ble_eq_true rfl, Nat.le_of_ble_eq_true rfl⟩ dL_act_155 158 rfl (ws2 := wC g h1 h2 ++ (wB cyI h1 b1 ++ (wB cyI h2 b2 ++ (wA cyI z6 6 f7_24 ++ wS cyI cyJ z h u)))) rfl (st2 := [.int x25, .int (a0 >>> ((7 : Int32) &&& 31)), .int 1, .int 3, .ref z6, .ref z6]) rfl ?_
          refine jo1_s (P := fun (j28 : Int32) => Gq p l e rm_L_act s m args below meth c D A 13 Q (wC g h1 h2 ++ (wB cyI h1 b1 ++ (wB cyI h2 b2 ++ (wA cyI z6 6 f7_24 ++ wS cyI cyJ z h u)))) 1 6 168 [(0, .ref g), (1, .ref z), (3, .int (nI (nT u)))] [.int j28, .int (a0 >>> ((7 : Int32) &&& 31)), .int 1, .int 3, .ref z6, .ref z6]) hf (fun j28 hf => ?_) (fun K27 hK27 hf => ?_)
          · obtain ⟨x29, e30, hf⟩ := bd1_s hf
            refine g_callS1 C (m_L_below hfl  e30) cf_L_below gL_act_L_below ⟨Nat.le_of_ble_eq_true rfl, Nat.le_of_ble_eq_true rfl⟩ (As := [.int (a0 >>> ((7 : Int32) &&& 31)), .int j28]) (rest := [.int 1, .int 3, .ref z6, .ref z6]) (wl := []) (wr := wC g h1 h2 ++ (wB cyI h1 b1 ++ (wB cyI h2 b2 ++ (wA cyI z6 6 f7_24 ++ wS cyI cyJ z h u)))) (c2 := 1) (s2 := 6) rfl rfl rfl (Nat.le_of_ble_eq_true rfl) rfl rfl ⟨Nat.le_of_ble_eq_true rfl, Nat.le_of_ble_eq_true rfl⟩ dL_act_168 171 rfl (ws2 := wC g h1 h2 ++ (wB cyI h1 b1 ++ (wB cyI h2 b2 ++ (wA cyI z6 6 f7_24 ++ wS cyI cyJ z h u)))) rfl (st2 := [.int x29, .int 1, .int 3, .ref z6, .ref z6]) rfl ?_
            refine g_iadd C dL_act_171 172 rfl ?_
            obtain ⟨f7_32, e31, hf⟩ := bd1_s hf
            refine g_iast C 23 0 rfl rfl (stF_in e31) (st_19 (cyI := cyI) (cyZ := cyZ) (cyJ := cyJ) e31) dL_act_172 173 rfl ?_
            refine g_dup C dL_act_173 174 rfl rfl ?_
            refine g_iconst C dL_act_174 175 rfl ic_4 ?_
            refine g_iconst C dL_act_175 176 rfl ic_0 ?_
            obtain ⟨f7_34, e33, hf⟩ := bd1_s hf
            refine g_iast C 23 0 rfl rfl (stF_in e33) (st_19 (cyI := cyI) (cyZ := cyZ) (cyJ := cyJ) e33) dL_act_176 177 rfl ?_
            refine g_dup C dL_act_177 178 rfl rfl ?_
            refine g_iconst C dL_act_178 179 rfl ic_5 ?_
            refine g_iconst C dL_act_179 180 rfl ic_0 ?_
            obtain ⟨f7_36, e35, hf⟩ := bd1_s hf
            refine g_iast C 23 0 rfl rfl (stF_in e35) (st_19 (cyI := cyI) (cyZ := cyZ) (cyJ := cyJ) e35) dL_act_180 181 rfl ?_
            refine g_astore C dL_act_181 183 rfl (by decide) (lv' := [(6, .ref z6), (0, .ref g), (1, .ref z), (3, .int (nI (nT u)))]) rfl ?_
            refine g_aload_n C dL_act_183 184 rfl 2 rfl ?_
            refine g_aload_n C dL_act_184 185 rfl 2 rfl ?_
            refine g_get C iX2 24 rfl rfl 4 (by decide) kw0 rfl rfl dL_act_185 188 rfl ?_
            refine g_aload C dL_act_188 190 rfl 0 rfl ?_
            obtain ⟨u_37, e39, hf⟩ := bd1_s hf
            refine g_addT C hfl gL_act_X2_with ⟨Nat.le_of_ble_eq_true rfl, Nat.le_of_ble_eq_true rfl⟩ (rest := []) (wl := wC g h1 h2 ++ (wB cyI h1 b1 ++ wB cyI h2 b2)) (c2 := 2) (s2 := 38) rfl rfl (by decide) rfl rfl ⟨Nat.le_of_ble_eq_true rfl, Nat.le_of_ble_eq_true rfl⟩ iX2 kw0 e39 dL_act_190 dL_act_193 196 rfl (fun h38 hz40 => ?_)
            subst hz40
            refine g_aload_n C dL_act_196 197 rfl 1 rfl ?_
            refine g_aload C dL_act_197 199 rfl 0 rfl ?_
            refine g_iconst C dL_act_199 200 rfl ic_0 ?_
            obtain ⟨x42, e41, hf⟩ := bd1_s hf
            refine g_rldT C (wl := wC g h1 h2 ++ (wB cyI h1 b1 ++ wB cyI h2 b2)) (cyJ := cyJ) 0 0 rfl rfl ⟨by decide, by unfold vp_in; decide⟩ e41 dL_act_200 201 rfl ?_
            refine g_aload C dL_act_201 203 rfl 0 rfl ?_
            refine g_iconst C dL_act_203 204 rfl ic_1 ?_
            obtain ⟨x44, e43, hf⟩ := bd1_s hf
            refine g_rldT C (wl := wC g h1 h2 ++ (wB cyI h1 b1 ++ wB cyI h2 b2)) (cyJ := cyJ) 1 0 rfl rfl ⟨by decide, by unfold vp_in; decide⟩ e43 dL_act_204 205 rfl ?_
            refine g_aload C dL_act_205 207 rfl 0 rfl ?_
            refine g_iconst C dL_act_207 208 rfl ic_2 ?_
            obtain ⟨x46, e45, hf⟩ := bd1_s hf
            refine g_rldT C (wl := wC g h1 h2 ++ (wB cyI h1 b1 ++ wB cyI h2 b2)) (cyJ := cyJ) 2 0 rfl rfl ⟨by decide, by unfold vp_in; decide⟩ e45 dL_act_208 209 rfl ?_
            refine g_aload C dL_act_209 211 rfl 0 rfl ?_
            refine g_iconst C dL_act_211 212 rfl ic_3 ?_
            obtain ⟨x48, e47, hf⟩ := bd1_s hf
            refine g_rldT C (wl := wC g h1 h2 ++ (wB cyI h1 b1 ++ wB cyI h2 b2)) (cyJ := cyJ) 3 0 rfl rfl ⟨by decide, by unfold vp_in; decide⟩ e47 dL_act_212 213 rfl ?_
            obtain ⟨x49, b1_50, e51, hf⟩ := bz2_s hf
            refine g_callV1 C (m_X1_arrive_r hfl (g := g) (h1 := h1) (h2 := h2) e51) cf_X1_arrive gL_act_X1_arrive ⟨Nat.le_of_ble_eq_true rfl, Nat.le_of_ble_eq_true rfl⟩ (q0 := 0) (As := [.int x42, .int x44, .int x46, .int x48]) (rest := []) (wl := []) (wr := wS cyI cyJ z h38 u_37) (c2 := 7) (s2 := 68) rfl rfl rfl rfl rfl rfl (Nat.le_of_ble_eq_true rfl) rfl rfl ⟨Nat.le_of_ble_eq_true rfl, Nat.le_of_ble_eq_true rfl⟩ dL_act_213 216 rfl (ws2 := wC g h1 h2 ++ (wB cyI h1 b1_50 ++ (wB cyI h2 b2 ++ wS cyI cyJ z h38 u_37))) rfl (st2 := [.int x49]) rfl ?_
            refine g_iload_n C dL_act_216 217 rfl 3 rfl ?_
            refine g_icmp_ne C dL_act_217 224 220 (by decide) rfl (fun c53 => ?_) (fun c53 => ?_)
            · have hf := ifn c53 hf
              refine g_iconst C dL_act_224 225 rfl ic_0 ?_
              refine g_Q hQ ?_
              exact g_zret C hr (Or.inl rfl) (by cases hf; exact ⟨_, rfl⟩) (Nat.le_of_ble_eq_true rfl) (Nat.le_of_ble_eq_true rfl) dL_act_225
            · have hf := ifp c53 hf
              refine g_iconst C dL_act_220 221 rfl ic_1 ?_
              refine g_goto C dL_act_221 225 (by decide) ?_
              refine g_Q hQ ?_
              exact g_zret C hr (Or.inr rfl) (by cases hf; exact ⟨_, rfl⟩) (Nat.le_of_ble_eq_true rfl) (Nat.le_of_ble_eq_true rfl) dL_act_225
          · refine g_if_ne C dL_act_158 166 161 (by decide) rfl (fun c54 => ?_) (fun c54 => ?_)
            · have hf := ifn c54 hf
              refine g_bipush C dL_act_166 168 rfl bp_60 ?_
              refine g_lv [0, 1, 3] (lv' := [(0, .ref g), (1, .ref z), (3, .int (nI (nT u)))]) rfl ?_
              exact hK27 60 hf
            · have hf := ifp c54 hf
              refine g_bipush C dL_act_161 163 rfl bp_12 ?_
              refine g_goto C dL_act_163 168 (by decide) ?_
              refine g_lv [0, 1, 3] (lv' := [(0, .ref g), (1, .ref z), (3, .int (nI (nT u)))]) rfl ?_
              exact hK27 12 hf
        · refine g_if_ne C dL_act_122 130 125 (by decide) rfl (fun c55 => ?_) (fun c55 => ?_)
          · have hf := ifn c55 hf
            refine g_iconst C dL_act_130 131 rfl ic_3 ?_
            exact hK15 3 hf
          · have hf := ifp c55 hf
            refine g_bipush C dL_act_125 127 rfl bp_10 ?_
            refine g_goto C dL_act_127 131 (by decide) ?_
            exact hK15 10 hf
      · have hf := ifp c5 hf
        refine g_iconst C dL_act_95 96 rfl ic_1 ?_
        refine g_Q hQ ?_
        exact g_zret C hr (Or.inr rfl) (by cases hf; exact ⟨_, rfl⟩) (Nat.le_of_ble_eq_true rfl) (Nat.le_of_ble_eq_true rfl) dL_act_96
    · refine g_if_eq C dL_act_80 89 83 (by decide) rfl (fun c56 => ?_) (fun c56 => ?_)
      · have hf := ifp c56 hf
        refine g_lv [3, 4, 5, 2] (lv' := [(0, .ref g), (1, .ref z), (2, .int a0), (3, .int (nI (nT u)))]) rfl ?_
        exact hK4 hf
      · have hf := ifn c56 hf
        refine g_iload C dL_act_83 85 rfl 0 rfl ?_
        refine g_iconst C dL_act_85 86 rfl ic_5 ?_
        refine g_icmp_ge C dL_act_86 226 89 (by decide) rfl (fun c57 => ?_) (fun c57 => ?_)
        · have hf := ifp c57 hf
          refine g_iload_n C dL_act_226 227 rfl 5 rfl ?_
          refine g_iconst C dL_act_227 228 rfl ic_1 ?_
          refine g_ishr C dL_act_228 229 rfl ?_
          refine g_iload_n C dL_act_229 230 rfl 2 rfl ?_
          obtain ⟨x58, e59, hf⟩ := bd1_s hf
          refine g_callS1 C (m_L_below hfl  e59) cf_L_below gL_act_L_below ⟨Nat.le_of_ble_eq_true rfl, Nat.le_of_ble_eq_true rfl⟩ (As := [.int (a0 >>> ((1 : Int32) &&& 31)), .int (nI (nT u))]) (rest := []) (wl := []) (wr := wC g h1 h2 ++ (wB cyI h1 b1 ++ (wB cyI h2 b2 ++ wS cyI cyJ z h u))) (c2 := 0) (s2 := 0) rfl rfl rfl (Nat.le_of_ble_eq_true rfl) rfl rfl ⟨Nat.le_of_ble_eq_true rfl, Nat.le_of_ble_eq_true rfl⟩ dL_act_230 233 rfl (ws2 := wC g h1 h2 ++ (wB cyI h1 b1 ++ (wB cyI h2 b2 ++ wS cyI cyJ z h u))) rfl (st2 := [.int x58]) rfl ?_
          refine g_istore C dL_act_233 235 rfl (by decide) (lv' := [(6, .int x58), (5, .int x1), (4, .int (nI (nG u))), (3, .int (nI (nT u))), (0, .ref g), (1, .ref z), (2, .int a0)]) rfl ?_
          refine g_aload_n C dL_act_235 236 rfl 5 rfl ?_
          refine g_get C iX2 23 rfl rfl 4 (by decide) kw0 rfl rfl dL_act_236 239 rfl ?_
          refine g_iload C dL_act_239 241 rfl 0 rfl ?_
          obtain ⟨_, e60, hf⟩ := bd1_s hf
          refine g_aaT C (wl := wC g h1 h2 ++ (wB cyI h1 b1 ++ wB cyI h2 b2)) (cyI := cyI) 2 rfl rfl e60 dL_act_241 242 rfl ?_
          refine g_astore C dL_act_242 244 rfl (by decide) (lv' := [(7, .ref (h 2 x58.toNatClampNeg)), (6, .int x58), (5, .int x1), (4, .int (nI (nG u))), (3, .int (nI (nT u))), (0, .ref g), (1, .ref z), (2, .int a0)]) rfl ?_
          refine g_iload C dL_act_244 246 rfl 2 rfl ?_
          by_cases c61 : x1 = 5
          · have hf := ifp c61 hf
            refine g_tab C c61 dL_act_246 (by decide) (by decide) rfl 272 (by decide) ?_
            refine g_aload C dL_act_272 274 rfl 0 rfl ?_
            refine g_iconst C dL_act_274 275 rfl ic_1 ?_
            obtain ⟨x63, e62, hf⟩ := bd1_s hf
            refine g_rldT C (wl := wC g h1 h2 ++ (wB cyI h1 b1 ++ wB cyI h2 b2)) (cyJ := cyJ) 1 0 rfl rfl ⟨by decide, by unfold vp_in; decide⟩ e62 dL_act_275 276 rfl ?_
            refine g_istore C dL_act_276 278 rfl (by decide) (lv' := [(8, .int x63), (7, .ref (h 2 x58.toNatClampNeg)), (6, .int x58), (5, .int x1), (4, .int (nI (nG u))), (3, .int (nI (nT u))), (0, .ref g), (1, .ref z), (2, .int a0)]) rfl ?_
            refine g_aload C dL_act_278 280 rfl 1 rfl ?_
            refine g_iconst C dL_act_280 281 rfl ic_4 ?_
            obtain ⟨x65, e64, hf⟩ := bd1_s hf
            refine g_rldT C (wl := wC g h1 h2 ++ (wB cyI h1 b1 ++ wB cyI h2 b2)) (cyJ := cyJ) 4 0 rfl rfl ⟨by decide, by unfold vp_in; decide⟩ e64 dL_act_281 282 rfl ?_
            refine g_if_eq C dL_act_282 287 285 (by decide) rfl (fun c66 => ?_) (fun c66 => ?_)
            · have hf := ifp c66 hf
              refine g_aload C dL_act_287 289 rfl 1 rfl ?_
              refine g_iconst C dL_act_289 290 rfl ic_1 ?_
              refine g_iload_n C dL_act_290 291 rfl 8 rfl ?_
              refine g_iconst C dL_act_291 292 rfl ic_3 ?_
              refine g_ishr C dL_act_292 293 rfl ?_
              refine g_bipush C dL_act_293 295 rfl bp_10 ?_
              obtain ⟨x67, e68, hf⟩ := bd1_s hf
              refine g_callS1 C (m_L_below hfl  e68) cf_L_below gL_act_L_below ⟨Nat.le_of_ble_eq_true rfl, Nat.le_of_ble_eq_true rfl⟩ (As := [.int (a0 >>> ((3 : Int32) &&& 31)), .int 10]) (rest := [.int 1, .ref (h 2 x58.toNatClampNeg)]) (wl := []) (wr := wC g h1 h2 ++ (wB cyI h1 b1 ++ (wB cyI h2 b2 ++ wS cyI cyJ z h u))) (c2 := 0) (s2 := 0) rfl rfl rfl (Nat.le_of_ble_eq_true rfl) rfl rfl ⟨Nat.le_of_ble_eq_true rfl, Nat.le_of_ble_eq_true rfl⟩ dL_act_295 298 rfl (ws2 := wC g h1 h2 ++ (wB cyI h1 b1 ++ (wB cyI h2 b2 ++ wS cyI cyJ z h u))) rfl (st2 := [.int x67, .int 1, .ref (h 2 x58.toNatClampNeg)]) rfl ?_
              obtain ⟨u_70, e69, hf⟩ := bd1_s hf
              refine g_rstT C (wl := wC g h1 h2 ++ (wB cyI h1 b1 ++ wB cyI h2 b2)) (cyJ := cyJ) 1 0 rfl rfl ⟨by decide, by unfold vp_in; decide⟩ e69 dL_act_298 299 rfl ?_
              refine g_aload_n C dL_act_299 300 rfl 6 rfl ?_
              refine g_iload C dL_act_300 302 rfl 2 rfl ?_
              refine g_aload C dL_act_302 304 rfl 1 rfl ?_
              refine g_iconst C dL_act_304 305 rfl ic_1 ?_
              obtain ⟨x72, e71, hf⟩ := bd1_s hf
              refine g_rldT C (wl := wC g h1 h2 ++ (wB cyI h1 b1 ++ wB cyI h2 b2)) (cyJ := cyJ) 1 0 rfl rfl ⟨by decide, by unfold vp_in; decide⟩ e71 dL_act_305 306 rfl ?_
              obtain ⟨x73, b1_74, e75, hf⟩ := bz2_s hf
              refine g_callV1 C (m_X1_declare_r hfl (g := g) (h1 := h1) (h2 := h2) e75) cf_X1_declare gL_act_X1_declare ⟨Nat.le_of_ble_eq_true rfl, Nat.le_of_ble_eq_true rfl⟩ (q0 := 0) (As := [.int x58, .int x72]) (rest := []) (wl := []) (wr := wS cyI cyJ z h u_70) (c2 := 3) (s2 := 18) rfl rfl rfl rfl rfl rfl (Nat.le_of_ble_eq_true rfl) rfl rfl ⟨Nat.le_of_ble_eq_true rfl, Nat.le_of_ble_eq_true rfl⟩ dL_act_306 309 rfl (ws2 := wC g h1 h2 ++ (wB cyI h1 b1_74 ++ (wB cyI h2 b2 ++ wS cyI cyJ z h u_70))) rfl (st2 := [.int x73]) rfl ?_
              refine g_iload C dL_act_309 311 rfl 0 rfl ?_
              refine g_icmp_ne C dL_act_311 318 314 (by decide) rfl (fun c77 => ?_) (fun c77 => ?_)
              · have hf := ifn c77 hf
                refine g_iconst C dL_act_318 319 rfl ic_0 ?_
                refine g_Q hQ ?_
                exact g_zret C hr (Or.inl rfl) (by cases hf; exact ⟨_, rfl⟩) (Nat.le_of_ble_eq_true rfl) (Nat.le_of_ble_eq_true rfl) dL_act_319
              · have hf := ifp c77 hf
                refine g_iconst C dL_act_314 315 rfl ic_1 ?_
                refine g_goto C dL_act_315 319 (by decide) ?_
                refine g_Q hQ ?_
                exact g_zret C hr (Or.inr rfl) (by cases hf; exact ⟨_, rfl⟩) (Nat.le_of_ble_eq_true rfl) (Nat.le_of_ble_eq_true rfl) dL_act_319
            · have hf := ifn c66 hf
              refine g_iconst C dL_act_285 286 rfl ic_1 ?_
              refine g_Q hQ ?_
              exact g_zret C hr (Or.inr rfl) (by cases hf; exact ⟨_, rfl⟩) (Nat.le_of_ble_eq_true rfl) (Nat.le_of_ble_eq_true rfl) dL_act_286
          · have hf := ifn c61 hf
            by_cases c78 : x1 = 6
            · have hf := ifp c78 hf
              refine g_tab C c78 dL_act_246 (by decide) (by decide) rfl 320 (by decide) ?_
              refine g_aload C dL_act_320 322 rfl 0 rfl ?_
              refine g_iconst C dL_act_322 323 rfl ic_3 ?_
              obtain ⟨x80, e79, hf⟩ := bd1_s hf
              refine g_rldT C (wl := wC g h1 h2 ++ (wB cyI h1 b1 ++ wB cyI h2 b2)) (cyJ := cyJ) 3 0 rfl rfl ⟨by decide, by unfold vp_in; decide⟩ e79 dL_act_323 324 rfl ?_
              refine g_istore C dL_act_324 326 rfl (by decide) (lv' := [(9, .int x80), (7, .ref (h 2 x58.toNatClampNeg)), (6, .int x58), (5, .int x1), (4, .int (nI (nG u))), (3, .int (nI (nT u))), (0, .ref g), (1, .ref z), (2, .int a0)]) rfl ?_
              refine g_aload C dL_act_326 328 rfl 1 rfl ?_
              refine g_iconst C dL_act_328 329 rfl ic_4 ?_
              obtain ⟨x82, e81, hf⟩ := bd1_s hf
              refine g_rldT C (wl := wC g h1 h2 ++ (wB cyI h1 b1 ++ wB cyI h2 b2)) (cyJ := cyJ) 4 0 rfl rfl ⟨by decide, by unfold vp_in; decide⟩ e81 dL_act_329 330 rfl ?_
              refine g_if_eq C dL_act_330 335 333 (by decide) rfl (fun c83 => ?_) (fun c83 => ?_)
              · have hf := ifp c83 hf
                refine g_aload C dL_act_335 337 rfl 1 rfl ?_
                refine g_iconst C dL_act_337 338 rfl ic_3 ?_
                refine g_iconst C dL_act_338 339 rfl ic_1 ?_
                refine g_iload_n C dL_act_339 340 rfl 8 rfl ?_
                refine g_iconst C dL_act_340 341 rfl ic_3 ?_
                refine g_ishr C dL_act_341 342 rfl ?_
                refine g_bipush C dL_act_342 344 rfl bp_60 ?_
                obtain ⟨x84, e85, hf⟩ := bd1_s hf
                refine g_callS1 C (m_L_below hfl  e85) cf_L_below gL_act_L_below ⟨Nat.le_of_ble_eq_true rfl, Nat.le_of_ble_eq_true rfl⟩ (As := [.int (a0 >>> ((3 : Int32) &&& 31)), .int 60]) (rest := [.int 1, .int 3, .ref (h 2 x58.toNatClampNeg)]) (wl := []) (wr := wC g h1 h2 ++ (wB cyI h1 b1 ++ (wB cyI h2 b2 ++ wS cyI cyJ z h u))) (c2 := 0) (s2 := 0) rfl rfl rfl (Nat.le_of_ble_eq_true rfl) rfl rfl ⟨Nat.le_of_ble_eq_true rfl, Nat.le_of_ble_eq_true rfl⟩ dL_act_344 347 rfl (ws2 := wC g h1 h2 ++ (wB cyI h1 b1 ++ (wB cyI h2 b2 ++ wS cyI cyJ z h u))) rfl (st2 := [.int x84, .int 1, .int 3, .ref (h 2 x58.toNatClampNeg)]) rfl ?_
                refine g_iadd C dL_act_347 348 rfl ?_
                obtain ⟨u_87, e86, hf⟩ := bd1_s hf
                refine g_rstT C (wl := wC g h1 h2 ++ (wB cyI h1 b1 ++ wB cyI h2 b2)) (cyJ := cyJ) 3 0 rfl rfl ⟨by decide, by unfold vp_in; decide⟩ e86 dL_act_348 349 rfl ?_
                refine g_aload_n C dL_act_349 350 rfl 6 rfl ?_
                refine g_iload C dL_act_350 352 rfl 2 rfl ?_
                refine g_aload C dL_act_352 354 rfl 1 rfl ?_
                refine g_iconst C dL_act_354 355 rfl ic_3 ?_
                obtain ⟨x89, e88, hf⟩ := bd1_s hf
                refine g_rldT C (wl := wC g h1 h2 ++ (wB cyI h1 b1 ++ wB cyI h2 b2)) (cyJ := cyJ) 3 0 rfl rfl ⟨by decide, by unfold vp_in; decide⟩ e88 dL_act_355 356 rfl ?_
                obtain ⟨x90, b1_91, e92, hf⟩ := bz2_s hf
                refine g_callV1 C (m_X1_sing_r hfl (g := g) (h1 := h1) (h2 := h2) e92) cf_X1_sing gL_act_X1_sing ⟨Nat.le_of_ble_eq_true rfl, Nat.le_of_ble_eq_true rfl⟩ (q0 := 0) (As := [.int x58, .int x89]) (rest := []) (wl := []) (wr := wS cyI cyJ z h u_87) (c2 := 3) (s2 := 18) rfl rfl rfl rfl rfl rfl (Nat.le_of_ble_eq_true rfl) rfl rfl ⟨Nat.le_of_ble_eq_true rfl, Nat.le_of_ble_eq_true rfl⟩ dL_act_356 359 rfl (ws2 := wC g h1 h2 ++ (wB cyI h1 b1_91 ++ (wB cyI h2 b2 ++ wS cyI cyJ z h u_87))) rfl (st2 := [.int x90]) rfl ?_
                refine g_iload C dL_act_359 361 rfl 0 rfl ?_
                refine g_icmp_ne C dL_act_361 368 364 (by decide) rfl (fun c94 => ?_) (fun c94 => ?_)
                · have hf := ifn c94 hf
                  refine g_iconst C dL_act_368 369 rfl ic_0 ?_
                  refine g_Q hQ ?_
                  exact g_zret C hr (Or.inl rfl) (by cases hf; exact ⟨_, rfl⟩) (Nat.le_of_ble_eq_true rfl) (Nat.le_of_ble_eq_true rfl) dL_act_369
                · have hf := ifp c94 hf
                  refine g_iconst C dL_act_364 365 rfl ic_1 ?_
                  refine g_goto C dL_act_365 369 (by decide) ?_
                  refine g_Q hQ ?_
                  exact g_zret C hr (Or.inr rfl) (by cases hf; exact ⟨_, rfl⟩) (Nat.le_of_ble_eq_true rfl) (Nat.le_of_ble_eq_true rfl) dL_act_369
              · have hf := ifn c83 hf
                refine g_iconst C dL_act_333 334 rfl ic_1 ?_
                refine g_Q hQ ?_
                exact g_zret C hr (Or.inr rfl) (by cases hf; exact ⟨_, rfl⟩) (Nat.le_of_ble_eq_true rfl) (Nat.le_of_ble_eq_true rfl) dL_act_334
            · have hf := ifn c78 hf
              by_cases c95 : x1 = 7
              · have hf := ifp c95 hf
                refine g_tab C c95 dL_act_246 (by decide) (by decide) rfl 370 (by decide) ?_
                refine g_iload C dL_act_370 372 rfl 3 rfl ?_
                refine g_if_ne C dL_act_372 377 375 (by decide) rfl (fun c96 => ?_) (fun c96 => ?_)
                · have hf := ifn c96 hf
                  refine g_iload_n C dL_act_377 378 rfl 7 rfl ?_
                  refine g_iconst C dL_act_378 379 rfl ic_3 ?_
                  refine g_ishr C dL_act_379 380 rfl ?_
                  refine g_iload C dL_act_380 382 rfl 3 rfl ?_
                  obtain ⟨x97, e98, hf⟩ := bd1_s hf
                  refine g_callS1 C (m_L_below hfl  e98) cf_L_below gL_act_L_below ⟨Nat.le_of_ble_eq_true rfl, Nat.le_of_ble_eq_true rfl⟩ (As := [.int (a0 >>> ((3 : Int32) &&& 31)), .int (nI (nG u))]) (rest := []) (wl := []) (wr := wC g h1 h2 ++ (wB cyI h1 b1 ++ (wB cyI h2 b2 ++ wS cyI cyJ z h u))) (c2 := 0) (s2 := 0) rfl rfl rfl (Nat.le_of_ble_eq_true rfl) rfl rfl ⟨Nat.le_of_ble_eq_true rfl, Nat.le_of_ble_eq_true rfl⟩ dL_act_382 385 rfl (ws2 := wC g h1 h2 ++ (wB cyI h1 b1 ++ (wB cyI h2 b2 ++ wS cyI cyJ z h u))) rfl (st2 := [.int x97]) rfl ?_
                  refine g_istore C dL_act_385 387 rfl (by decide) (lv' := [(10, .int x97), (7, .ref (h 2 x58.toNatClampNeg)), (6, .int x58), (5, .int x1), (4, .int (nI (nG u))), (3, .int (nI (nT u))), (0, .ref g), (1, .ref z), (2, .int a0)]) rfl ?_
                  refine g_aload_n C dL_act_387 388 rfl 7 rfl ?_
                  refine g_get C iX2 23 rfl rfl 3 (by decide) kw2 rfl rfl dL_act_388 391 rfl ?_
                  refine g_iload C dL_act_391 393 rfl 0 rfl ?_
                  obtain ⟨_, e99, hf⟩ := bd1_s hf
                  refine g_aaG C (wl := wC g h1 h2 ++ (wB cyI h1 b1 ++ wB cyI h2 b2)) (cyI := cyI) 2 rfl rfl e99 dL_act_393 394 rfl ?_
                  refine g_iconst C dL_act_394 395 rfl ic_0 ?_
                  obtain ⟨x101, e100, hf⟩ := bd1_s hf
                  refine g_rldG C (wl := wC g h1 h2 ++ (wB cyI h1 b1 ++ wB cyI h2 b2)) (cyJ := cyJ) 0 0 rfl rfl ⟨by decide, by unfold vp_in; decide⟩ e100 dL_act_395 396 rfl ?_
                  refine g_istore C dL_act_396 398 rfl (by decide) (lv' := [(11, .int x101), (10, .int x97), (7, .ref (h 2 x58.toNatClampNeg)), (6, .int x58), (5, .int x1), (4, .int (nI (nG u))), (3, .int (nI (nT u))), (0, .ref g), (1, .ref z), (2, .int a0)]) rfl ?_
                  refine g_aload_n C dL_act_398 399 rfl 8 rfl ?_
                  refine g_get C iX2 23 rfl rfl 3 (by decide) kw2 rfl rfl dL_act_399 402 rfl ?_
                  refine g_iload C dL_act_402 404 rfl 1 rfl ?_
                  obtain ⟨_, e102, hf⟩ := bd1_s hf
                  refine g_aaG C (wl := wC g h1 h2 ++ (wB cyI h1 b1 ++ wB cyI h2 b2)) (cyI := cyI) 2 rfl rfl e102 dL_act_404 405 rfl ?_
                  refine g_iconst C dL_act_405 406 rfl ic_0 ?_
                  refine g_bipush C dL_act_406 408 rfl bp_9 ?_
                  obtain ⟨u_104, e103, hf⟩ := bd1_s hf
                  refine g_rstG C (wl := wC g h1 h2 ++ (wB cyI h1 b1 ++ wB cyI h2 b2)) (cyJ := cyJ) 0 0 rfl rfl ⟨by decide, by unfold vp_in; decide⟩ e103 dL_act_408 409 rfl ?_
                  refine g_aload_n C dL_act_409 410 rfl 7 rfl ?_
                  refine g_iload C dL_act_410 412 rfl 1 rfl ?_
                  obtain ⟨x105, b1_106, e107, hf⟩ := bz2_s hf
                  refine g_callV1 C (m_X1_wake_r hfl (g := g) (h1 := h1) (h2 := h2) e107) cf_X1_wake gL_act_X1_wake ⟨Nat.le_of_ble_eq_true rfl, Nat.le_of_ble_eq_true rfl⟩ (q0 := 0) (As := [.int x97]) (rest := []) (wl := []) (wr := wS cyI cyJ z h u_104) (c2 := 1) (s2 := 6) rfl rfl rfl rfl rfl rfl (Nat.le_of_ble_eq_true rfl) rfl rfl ⟨Nat.le_of_ble_eq_true rfl, Nat.le_of_ble_eq_true rfl⟩ dL_act_412 415 rfl (ws2 := wC g h1 h2 ++ (wB cyI h1 b1_106 ++ (wB cyI h2 b2 ++ wS cyI cyJ z h u_104))) rfl (st2 := [.int x105]) rfl ?_
                  refine g_iload C dL_act_415 417 rfl 0 rfl ?_
                  refine g_icmp_ne C dL_act_417 424 420 (by decide) rfl (fun c109 => ?_) (fun c109 => ?_)
                  · have hf := ifn c109 hf
                    refine g_iconst C dL_act_424 425 rfl ic_0 ?_
                    refine g_Q hQ ?_
                    exact g_zret C hr (Or.inl rfl) (by cases hf; exact ⟨_, rfl⟩) (Nat.le_of_ble_eq_true rfl) (Nat.le_of_ble_eq_true rfl) dL_act_425
                  · have hf := ifp c109 hf
                    refine g_iconst C dL_act_420 421 rfl ic_1 ?_
                    refine g_goto C dL_act_421 425 (by decide) ?_
                    refine g_Q hQ ?_
                    exact g_zret C hr (Or.inr rfl) (by cases hf; exact ⟨_, rfl⟩) (Nat.le_of_ble_eq_true rfl) (Nat.le_of_ble_eq_true rfl) dL_act_425
                · have hf := ifp c96 hf
                  refine g_iconst C dL_act_375 376 rfl ic_1 ?_
                  refine g_Q hQ ?_
                  exact g_zret C hr (Or.inr rfl) (by cases hf; exact ⟨_, rfl⟩) (Nat.le_of_ble_eq_true rfl) (Nat.le_of_ble_eq_true rfl) dL_act_376
              · have hf := ifn c95 hf
                refine g_tabD C dL_act_246 (out3 c61 c78 c95 (by decide) (by decide)) 426 (by decide) ?_
                refine g_iconst C dL_act_426 427 rfl ic_1 ?_
                refine g_iload_n C dL_act_427 428 rfl 7 rfl ?_
                refine g_iconst C dL_act_428 429 rfl ic_2 ?_
                refine g_ishr C dL_act_429 430 rfl ?_
                refine g_iload_n C dL_act_430 431 rfl 7 rfl ?_
                refine g_bipush C dL_act_431 433 rfl bp_8 ?_
                obtain ⟨x110, e111, hf⟩ := bd1_s hf
                refine g_callS1 C (m_L_below hfl  e111) cf_L_below gL_act_L_below ⟨Nat.le_of_ble_eq_true rfl, Nat.le_of_ble_eq_true rfl⟩ (As := [.int a0, .int 8]) (rest := [.int (a0 >>> ((2 : Int32) &&& 31)), .int 1]) (wl := []) (wr := wC g h1 h2 ++ (wB cyI h1 b1 ++ (wB cyI h2 b2 ++ wS cyI cyJ z h u))) (c2 := 0) (s2 := 0) rfl rfl rfl (Nat.le_of_ble_eq_true rfl) rfl rfl ⟨Nat.le_of_ble_eq_true rfl, Nat.le_of_ble_eq_true rfl⟩ dL_act_433 436 rfl (ws2 := wC g h1 h2 ++ (wB cyI h1 b1 ++ (wB cyI h2 b2 ++ wS cyI cyJ z h u))) rfl (st2 := [.int x110, .int (a0 >>> ((2 : Int32) &&& 31)), .int 1]) rfl ?_
                refine jo1_s (P := fun (j113 : Int32) => Gq p l e rm_L_act s m args below meth c D A 13 Q (wC g h1 h2 ++ (wB cyI h1 b1 ++ (wB cyI h2 b2 ++ wS cyI cyJ z h u))) 0 0 445 [(0, .ref g), (1, .ref z)] [.int j113, .int (a0 >>> ((2 : Int32) &&& 31)), .int 1]) hf (fun j113 hf => ?_) (fun K112 hK112 hf => ?_)
                · obtain ⟨x114, e115, hf⟩ := bd1_s hf
                  refine g_callS1 C (m_L_below hfl  e115) cf_L_below gL_act_L_below ⟨Nat.le_of_ble_eq_true rfl, Nat.le_of_ble_eq_true rfl⟩ (As := [.int (a0 >>> ((2 : Int32) &&& 31)), .int j113]) (rest := [.int 1]) (wl := []) (wr := wC g h1 h2 ++ (wB cyI h1 b1 ++ (wB cyI h2 b2 ++ wS cyI cyJ z h u))) (c2 := 0) (s2 := 0) rfl rfl rfl (Nat.le_of_ble_eq_true rfl) rfl rfl ⟨Nat.le_of_ble_eq_true rfl, Nat.le_of_ble_eq_true rfl⟩ dL_act_445 448 rfl (ws2 := wC g h1 h2 ++ (wB cyI h1 b1 ++ (wB cyI h2 b2 ++ wS cyI cyJ z h u))) rfl (st2 := [.int x114, .int 1]) rfl ?_
                  refine g_iadd C dL_act_448 449 rfl ?_
                  refine g_istore C dL_act_449 451 rfl (by decide) (lv' := [(12, .int (1 + x114)), (0, .ref g), (1, .ref z)]) rfl ?_
                  refine g_aload_n C dL_act_451 452 rfl 1 rfl ?_
                  refine g_iload C dL_act_452 454 rfl 0 rfl ?_
                  obtain ⟨x116, b1_117, e118, hf⟩ := bz2_s hf
                  refine g_callV1 C (m_X1_pass_r hfl (g := g) (h1 := h1) (h2 := h2) e118) cf_X1_pass gL_act_X1_pass ⟨Nat.le_of_ble_eq_true rfl, Nat.le_of_ble_eq_true rfl⟩ (q0 := 0) (As := [.int (1 + x114)]) (rest := []) (wl := []) (wr := wS cyI cyJ z h u) (c2 := 1) (s2 := 6) rfl rfl rfl rfl rfl rfl (Nat.le_of_ble_eq_true rfl) rfl rfl ⟨Nat.le_of_ble_eq_true rfl, Nat.le_of_ble_eq_true rfl⟩ dL_act_454 457 rfl (ws2 := wC g h1 h2 ++ (wB cyI h1 b1_117 ++ (wB cyI h2 b2 ++ wS cyI cyJ z h u))) rfl (st2 := [.int x116]) rfl ?_
                  refine g_aload_n C dL_act_457 458 rfl 2 rfl ?_
                  refine g_iload C dL_act_458 460 rfl 0 rfl ?_
                  obtain ⟨x120, u_121, e122, hf⟩ := bd2_s hf
                  refine g_callV1 C (m_X2_behind hfl (z := z) (h := h) e122) cf_X2_behind gL_act_X2_behind ⟨Nat.le_of_ble_eq_true rfl, Nat.le_of_ble_eq_true rfl⟩ (q0 := 0) (As := [.int (1 + x114)]) (rest := [.int x116]) (wl := wC g h1 h2 ++ (wB cyI h1 b1_117 ++ wB cyI h2 b2)) (wr := []) (c2 := 62) (s2 := 494) rfl rfl rfl (by rw [List.append_nil] <;> rfl) rfl rfl (Nat.le_of_ble_eq_true rfl) rfl rfl ⟨Nat.le_of_ble_eq_true rfl, Nat.le_of_ble_eq_true rfl⟩ dL_act_460 463 rfl (ws2 := wC g h1 h2 ++ (wB cyI h1 b1_117 ++ (wB cyI h2 b2 ++ wS cyI cyJ z h u_121))) (by rw [List.append_nil] <;> rfl) (st2 := [.int x120, .int x116]) rfl ?_
                  refine g_icmp_ne C dL_act_463 470 466 (by decide) rfl (fun c123 => ?_) (fun c123 => ?_)
                  · have hf := ifn c123 hf
                    refine g_iconst C dL_act_470 471 rfl ic_0 ?_
                    refine g_Q hQ ?_
                    exact g_zret C hr (Or.inl rfl) (by cases hf; exact ⟨_, rfl⟩) (Nat.le_of_ble_eq_true rfl) (Nat.le_of_ble_eq_true rfl) dL_act_471
                  · have hf := ifp c123 hf
                    refine g_iconst C dL_act_466 467 rfl ic_1 ?_
                    refine g_goto C dL_act_467 471 (by decide) ?_
                    refine g_Q hQ ?_
                    exact g_zret C hr (Or.inr rfl) (by cases hf; exact ⟨_, rfl⟩) (Nat.le_of_ble_eq_true rfl) (Nat.le_of_ble_eq_true rfl) dL_act_471
                · refine g_if_ne C dL_act_436 444 439 (by decide) rfl (fun c124 => ?_) (fun c124 => ?_)
                  · have hf := ifn c124 hf
                    refine g_iconst C dL_act_444 445 rfl ic_3 ?_
                    refine g_lv [5, 6] (lv' := [(0, .ref g), (1, .ref z)]) rfl ?_
                    exact hK112 3 hf
                  · have hf := ifp c124 hf
                    refine g_bipush C dL_act_439 441 rfl bp_60 ?_
                    refine g_goto C dL_act_441 445 (by decide) ?_
                    refine g_lv [5, 6] (lv' := [(0, .ref g), (1, .ref z)]) rfl ?_
                    exact hK112 60 hf
        · have hf := ifn c57 hf
          refine g_lv [3, 4, 5, 2] (lv' := [(0, .ref g), (1, .ref z), (2, .int a0), (3, .int (nI (nT u)))]) rfl ?_
          exact hK4 hf
  · have hf := ifp c3 hf
    refine g_iload C dL_act_29 31 rfl 1 rfl ?_
    refine g_iconst C dL_act_31 32 rfl ic_4 ?_
    refine g_icmp_ne C dL_act_32 37 35 (by decide) rfl (fun c125 => ?_) (fun c125 => ?_)
    · have hf := ifn c125 hf
      refine g_aload_n C dL_act_37 38 rfl 4 rfl ?_
      refine g_aload_n C dL_act_38 39 rfl 4 rfl ?_
      refine g_get C iX2 23 rfl rfl 3 (by decide) kw2 rfl rfl dL_act_39 42 rfl ?_
      refine g_iconst C dL_act_42 43 rfl ic_3 ?_
      refine g_newa C (atype := .int) (a0 := (3, .inl (fun _ => 0))) (n := 3) kw3 rfl (fun _ h => by cases h) 0 rfl 3 (fun _ => rfl) (by decide) rfl (by decide) (c2 := 1) (s2 := 3) rfl rfl (Nat.le_of_ble_eq_true rfl) (Nat.le_of_ble_eq_true rfl) dL_act_43 45 rfl (fun z126 => ?_)
      refine g_perm (ws' := wC g h1 h2 ++ (wB cyI h1 b1 ++ (wB cyI h2 b2 ++ (wA cyI z126 3 (fun _ => 0) ++ wS cyI cyJ z h u)))) (wl := wC g h1 h2 ++ (wB cyI h1 b1 ++ wB cyI h2 b2)) (w1 := wS cyI cyJ z h u) (w2 := wA cyI z126 3 (fun _ => 0)) rfl rfl ?_
      refine g_dup C dL_act_45 46 rfl rfl ?_
      refine g_iconst C dL_act_46 47 rfl ic_0 ?_
      refine g_bipush C dL_act_47 49 rfl bp_9 ?_
      obtain ⟨f127_130, e129, hf⟩ := bd1_s hf
      refine g_iast C 23 0 rfl rfl (stF_in e129) (st_20 (cyI := cyI) (cyZ := cyZ) (cyJ := cyJ) e129) dL_act_49 50 rfl ?_
      refine g_dup C dL_act_50 51 rfl rfl ?_
      refine g_iconst C dL_act_51 52 rfl ic_1 ?_
      refine g_iconst C dL_act_52 53 rfl ic_m1 ?_
      obtain ⟨f127_132, e131, hf⟩ := bd1_s hf
      refine g_iast C 23 0 rfl rfl (stF_in e131) (st_20 (cyI := cyI) (cyZ := cyZ) (cyJ := cyJ) e131) dL_act_53 54 rfl ?_
      refine g_dup C dL_act_54 55 rfl rfl ?_
      refine g_iconst C dL_act_55 56 rfl ic_2 ?_
      refine g_iconst C dL_act_56 57 rfl ic_0 ?_
      obtain ⟨f127_134, e133, hf⟩ := bd1_s hf
      refine g_iast C 23 0 rfl rfl (stF_in e133) (st_20 (cyI := cyI) (cyZ := cyZ) (cyJ := cyJ) e133) dL_act_57 58 rfl ?_
      obtain ⟨u_135, e137, hf⟩ := bd1_s hf
      refine g_addG C hfl gL_act_X2_with ⟨Nat.le_of_ble_eq_true rfl, Nat.le_of_ble_eq_true rfl⟩ (rest := []) (wl := wC g h1 h2 ++ (wB cyI h1 b1 ++ wB cyI h2 b2)) (c2 := 2) (s2 := 35) rfl rfl (by decide) rfl rfl ⟨Nat.le_of_ble_eq_true rfl, Nat.le_of_ble_eq_true rfl⟩ iX2 kw2 e137 dL_act_58 dL_act_61 64 rfl (fun h136 hz138 => ?_)
      subst hz138
      refine g_aload_n C dL_act_64 65 rfl 3 rfl ?_
      obtain ⟨x139, b1_140, e141, hf⟩ := bz2_s hf
      refine g_callV1 C (m_X1_addGuard_r hfl (g := g) (h1 := h1) (h2 := h2) e141) cf_X1_addGuard gL_act_X1_addGuard ⟨Nat.le_of_ble_eq_true rfl, Nat.le_of_ble_eq_true rfl⟩ (q0 := 0) (As := []) (rest := []) (wl := []) (wr := wS cyI cyJ z h136 u_135) (c2 := 3) (s2 := 41) rfl rfl rfl rfl rfl rfl (Nat.le_of_ble_eq_true rfl) rfl rfl ⟨Nat.le_of_ble_eq_true rfl, Nat.le_of_ble_eq_true rfl⟩ dL_act_65 68 rfl (ws2 := wC g h1 h2 ++ (wB cyI h1 b1_140 ++ (wB cyI h2 b2 ++ wS cyI cyJ z h136 u_135))) rfl (st2 := [.int x139]) rfl ?_
      refine g_iload C dL_act_68 70 rfl 1 rfl ?_
      refine g_icmp_ne C dL_act_70 77 73 (by decide) rfl (fun c143 => ?_) (fun c143 => ?_)
      · have hf := ifn c143 hf
        refine g_iconst C dL_act_77 78 rfl ic_0 ?_
        refine g_Q hQ ?_
        exact g_zret C hr (Or.inl rfl) (by cases hf; exact ⟨_, rfl⟩) (Nat.le_of_ble_eq_true rfl) (Nat.le_of_ble_eq_true rfl) dL_act_78
      · have hf := ifp c143 hf
        refine g_iconst C dL_act_73 74 rfl ic_1 ?_
        refine g_goto C dL_act_74 78 (by decide) ?_
        refine g_Q hQ ?_
        exact g_zret C hr (Or.inr rfl) (by cases hf; exact ⟨_, rfl⟩) (Nat.le_of_ble_eq_true rfl) (Nat.le_of_ble_eq_true rfl) dL_act_78
    · have hf := ifp c125 hf
      refine g_iconst C dL_act_35 36 rfl ic_1 ?_
      refine g_Q hQ ?_
      exact g_zret C hr (Or.inr rfl) (by cases hf; exact ⟨_, rfl⟩) (Nat.le_of_ble_eq_true rfl) (Nat.le_of_ble_eq_true rfl) dL_act_36
