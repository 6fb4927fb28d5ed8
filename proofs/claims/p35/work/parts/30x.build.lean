/-! build does what its function says (laid by wip/p35/gen) -/
theorem sp_653 : (Int16.ofInt 653).toInt32 = 653 := by decide
abbrev rm_L_build : Room := { frames := 9, cells := 3242, slots := 25898, locals := 158 }
theorem cf_L_build : CF yL_build wsL_build rm_L_build cL_build 6 (some (.object "SleepBorderLaw$Sim")) 2 3242 25898 RL := ⟨⟨_, rfl⟩, rfl, rfl, rfl, by decide, by decide, by decide +kernel⟩
set_option maxHeartbeats 4000000 in
set_option maxRecDepth 100000 in
theorem m_L_build {l : Launch} (hfl : l.stackTraces = false) {D : va_G} {cyI cyZ cyJ : ClassId} {sc : SC} {g : Nat} {h1 : Nat → Nat} {b1 : S2} {h2 : Nat → Nat} {b2 : S2} {rb1 ru : S2} (hf : L_build sc b1 b2 = some (rb1, ru)) : Ct (ev_s, sc) l yL_build wsL_build rm_L_build D (ty3 cyI cyZ cyJ) [.ref g, .ref sc.1] (wC g h1 h2 ++ (wB cyI h1 b1 ++ wB cyI h2 b2)) (fun o => ∃ (z : Nat) (h : Nat → Nat → Nat), o = .inr (some (.ref z), wC g h1 h2 ++ (wB cyI h1 rb1 ++ (wB cyI h2 b2 ++ wS cyI cyJ z h ru)))) 3242 25898 := by
  refine ct_of (cc := cL_build) (nL := 6) (own := RL) (ret := (some (.object "SleepBorderLaw$Sim"))) hfl (by decide) rfl rfl (Nat.le_of_ble_eq_true rfl) (fun p e s m args below meth c A C hr hnm => ?_)
  refine g_setQ (fun Q hQ => ?_)
  have kw0 := Cx.w C (.fieldLink RL 15 "SleepBorderLaw$Sim" "guards" "[[I") (by decide +kernel)
  have iX2 : ∀ w ∈ u_ws RX2 TX2 5, w ∈ wsL_build := by decide +kernel
  have kw2 := Cx.w C (.arrayClass .int) (by decide +kernel)
  have L89 : ∀ {z : Nat} (l4 : Int32) (n : Nat) (l5 : Int32) (b1 : S2) (u : S2) (h : Nat → Nat → Nat) (cells slots : Nat), cells + n * 62 + 0 ≤ 3242 → slots + n * 494 + 0 ≤ 25898 → L_build_L89 sc l4 b2 n l5 b1 u = some (rb1, ru) → Gq p l e rm_L_build s m args below meth c D A 6 Q (wC g h1 h2 ++ (wB cyI h1 b1 ++ (wB cyI h2 b2 ++ wS cyI cyJ z h u))) cells slots 89 [(0, .ref g), (1, .ref sc.1), (2, .ref z), (4, .int l4), (5, .int l5)] [] := by
    intro z l4 n
    induction n with
    | zero => intro l5 b1 u h cells slots hc1 hc2 hf; simp [L_build_L89] at hf
    | succ n ih =>
      intro l5 b1 u h cells slots hc1 hc2 hf
      rw [L_build_L89] at hf
      refine g_iload C dL_build_89 91 rfl 4 rfl ?_
      refine g_iload C dL_build_91 93 rfl 3 rfl ?_
      refine g_icmp_ge C dL_build_93 136 96 (by decide) rfl (fun c10 => ?_) (fun c10 => ?_)
      · have hf := ifp c10 hf
        refine g_aload_n C dL_build_136 137 rfl 2 rfl ?_
        refine g_Q hQ ?_
        exact g_aret C hr (Or.inl ⟨_, rfl⟩) (by cases hf; exact ⟨_, _, rfl⟩) (by omega) (by omega) dL_build_137
      · have hf := ifn c10 hf
        refine g_aload_n C dL_build_96 97 rfl 0 rfl ?_
        refine g_aload_n C dL_build_97 98 rfl 2 rfl ?_
        refine g_aload_n C dL_build_98 99 rfl 1 rfl ?_
        refine g_iload C dL_build_99 101 rfl 4 rfl ?_
        refine g_bipush C dL_build_101 103 rfl bp_16 ?_
        refine g_irem C (by decide) dL_build_103 104 rfl ?_
        obtain ⟨x11, e12, hf⟩ := bd1_s hf
        refine g_callS1 C (m_L_cell hfl  e12) cf_L_cell gL_build_L_cell ⟨Nat.le_of_ble_eq_true rfl, Nat.le_of_ble_eq_true rfl⟩ (As := [.ref sc.1, .int (l5 - l5 / 16 * 16)]) (rest := [.ref z, .ref g]) (wl := []) (wr := wC g h1 h2 ++ (wB cyI h1 b1 ++ (wB cyI h2 b2 ++ wS cyI cyJ z h u))) (c2 := cells) (s2 := slots) rfl rfl rfl (Nat.le_of_ble_eq_true rfl) rfl rfl ⟨(by show _ ≤ 3242; omega), (by show _ ≤ 25898; omega)⟩ dL_build_104 107 rfl (ws2 := wC g h1 h2 ++ (wB cyI h1 b1 ++ (wB cyI h2 b2 ++ wS cyI cyJ z h u))) rfl (st2 := [.int x11, .ref z, .ref g]) rfl ?_
        refine g_iload C dL_build_107 109 rfl 4 rfl ?_
        refine g_bipush C dL_build_109 111 rfl bp_16 ?_
        refine g_idiv C (by decide) dL_build_111 112 rfl ?_
        refine g_iconst C dL_build_112 113 rfl ic_3 ?_
        refine g_imul C dL_build_113 114 rfl ?_
        refine g_ishr C dL_build_114 115 rfl ?_
        refine g_sipush C sp_653 dL_build_115 118 rfl ?_
        refine g_iload C dL_build_118 120 rfl 4 rfl ?_
        refine g_imul C dL_build_120 121 rfl ?_
        refine g_iadd C dL_build_121 122 rfl ?_
        obtain ⟨x13, b1_14, u_15, e17, hf⟩ := bd3_s hf
        refine g_callSh C (m_L_act hfl (g := g) (h1 := h1) (h2 := h2) (z := z) (h := h) e17) cf_L_act gL_build_L_act ⟨Nat.le_of_ble_eq_true rfl, Nat.le_of_ble_eq_true rfl⟩ (As := [.ref g, .ref z, .int ((x11 >>> (((l5 / 16) * 3) &&& 31)) + (653 * l5))]) (rest := []) (wl := []) (wr := []) (c2 := cells + 62) (s2 := slots + 494) (by rw [List.append_nil] <;> rfl) rfl rfl (Nat.le_of_ble_eq_true rfl) rfl rfl ⟨(by show _ ≤ 3242; omega), (by show _ ≤ 25898; omega)⟩ dL_build_122 125 rfl (ws2 := fun h16 => wC g h1 h2 ++ (wB cyI h1 b1_14 ++ (wB cyI h2 b2 ++ wS cyI cyJ z h16 u_15))) (fun h16 => (by rw [List.append_nil] <;> rfl)) (st2 := [.int x13]) rfl (fun h16 => ?_)
        refine g_if_ne C dL_build_125 130 128 (by decide) rfl (fun c18 => ?_) (fun c18 => ?_)
        · have hf := ifn c18 hf
          refine g_iinc C dL_build_130 133 rfl 4 rfl (ii_1 _) (by decide) (lv' := [(5, .int (l5 + 1)), (0, .ref g), (1, .ref sc.1), (2, .ref z), (4, .int l4)]) rfl ?_
          refine g_goto C dL_build_133 89 (by decide) ?_
          refine g_lv [1, 2, 3, 4, 0] (lv' := [(0, .ref g), (1, .ref sc.1), (2, .ref z), (4, .int l4), (5, .int (l5 + 1))]) rfl ?_
          exact ih (l5 + 1) b1_14 u_15 h16 (cells + 62) (slots + 494) (by omega) (by omega) hf
        · have hf := ifp c18 hf
          cases hf
  have L21 : ∀ {z : Nat} (l3 : Int32) (n : Nat) (l4 : Int32) (b1 : S2) (u : S2) (h : Nat → Nat → Nat) (cells slots : Nat), cells + n * 3 + 3224 ≤ 3242 → slots + n * 41 + 25688 ≤ 25898 → L_build_L21 sc l3 b2 n l4 b1 u = some (rb1, ru) → Gq p l e rm_L_build s m args below meth c D A 6 Q (wC g h1 h2 ++ (wB cyI h1 b1 ++ (wB cyI h2 b2 ++ wS cyI cyJ z h u))) cells slots 21 [(0, .ref g), (1, .ref sc.1), (2, .ref z), (3, .int l3), (4, .int l4)] [] := by
    intro z l3 n
    induction n with
    | zero => intro l4 b1 u h cells slots hc1 hc2 hf; simp [L_build_L21] at hf
    | succ n ih =>
      intro l4 b1 u h cells slots hc1 hc2 hf
      rw [L_build_L21] at hf
      refine g_iload C dL_build_21 23 rfl 4 rfl ?_
      refine g_iload_n C dL_build_23 24 rfl 3 rfl ?_
      refine g_icmp_ge C dL_build_24 71 27 (by decide) rfl (fun c5 => ?_) (fun c5 => ?_)
      · have hf := ifp c5 hf
        refine g_bipush C dL_build_71 73 rfl bp_8 ?_
        refine g_aload_n C dL_build_73 74 rfl 1 rfl ?_
        refine g_iconst C dL_build_74 75 rfl ic_0 ?_
        obtain ⟨x6, e7, hf⟩ := bd1_s hf
        refine g_callS1 C (m_L_cell hfl  e7) cf_L_cell gL_build_L_cell ⟨Nat.le_of_ble_eq_true rfl, Nat.le_of_ble_eq_true rfl⟩ (As := [.ref sc.1, .int 0]) (rest := [.int 8]) (wl := []) (wr := wC g h1 h2 ++ (wB cyI h1 b1 ++ (wB cyI h2 b2 ++ wS cyI cyJ z h u))) (c2 := cells) (s2 := slots) rfl rfl rfl (Nat.le_of_ble_eq_true rfl) rfl rfl ⟨(by show _ ≤ 3242; omega), (by show _ ≤ 25898; omega)⟩ dL_build_75 78 rfl (ws2 := wC g h1 h2 ++ (wB cyI h1 b1 ++ (wB cyI h2 b2 ++ wS cyI cyJ z h u))) rfl (st2 := [.int x6, .int 8]) rfl ?_
        refine g_bipush C dL_build_78 80 rfl bp_44 ?_
        obtain ⟨x8, e9, hf⟩ := bd1_s hf
        refine g_callS1 C (m_L_below hfl  e9) cf_L_below gL_build_L_below ⟨Nat.le_of_ble_eq_true rfl, Nat.le_of_ble_eq_true rfl⟩ (As := [.int x6, .int 44]) (rest := [.int 8]) (wl := []) (wr := wC g h1 h2 ++ (wB cyI h1 b1 ++ (wB cyI h2 b2 ++ wS cyI cyJ z h u))) (c2 := cells) (s2 := slots) rfl rfl rfl (Nat.le_of_ble_eq_true rfl) rfl rfl ⟨(by show _ ≤ 3242; omega), (by show _ ≤ 25898; omega)⟩ dL_build_80 83 rfl (ws2 := wC g h1 h2 ++ (wB cyI h1 b1 ++ (wB cyI h2 b2 ++ wS cyI cyJ z h u))) rfl (st2 := [.int x8, .int 8]) rfl ?_
        refine g_iadd C dL_build_83 84 rfl ?_
        refine g_istore C dL_build_84 86 rfl (by decide) (lv' := [(4, .int (8 + x8)), (0, .ref g), (1, .ref sc.1), (2, .ref z), (3, .int l3)]) rfl ?_
        refine g_iconst C dL_build_86 87 rfl ic_0 ?_
        refine g_istore C dL_build_87 89 rfl (by decide) (lv' := [(5, .int 0), (4, .int (8 + x8)), (0, .ref g), (1, .ref sc.1), (2, .ref z), (3, .int l3)]) rfl ?_
        refine g_lv [2, 3, 4, 1, 0] (lv' := [(0, .ref g), (1, .ref sc.1), (2, .ref z), (4, .int (8 + x8)), (5, .int 0)]) rfl ?_
        exact L89 (8 + x8) 52 0 b1 u h cells slots (by omega) (by omega) hf
      · have hf := ifn c5 hf
        refine g_aload_n C dL_build_27 28 rfl 2 rfl ?_
        refine g_aload_n C dL_build_28 29 rfl 2 rfl ?_
        refine g_get C iX2 23 rfl rfl 3 (by decide) kw0 rfl rfl dL_build_29 32 rfl ?_
        refine g_iconst C dL_build_32 33 rfl ic_3 ?_
        refine g_newa C (atype := .int) (a0 := (3, .inl (fun _ => 0))) (n := 3) kw2 rfl (fun _ h => by cases h) 0 rfl 3 (fun _ => rfl) (by decide) rfl (by decide) (c2 := cells + 1) (s2 := slots + 3) rfl rfl (by show _ ≤ 3242; omega) (by show _ ≤ 25898; omega) dL_build_33 35 rfl (fun z19 => ?_)
        refine g_perm (ws' := wC g h1 h2 ++ (wB cyI h1 b1 ++ (wB cyI h2 b2 ++ (wA cyI z19 3 (fun _ => 0) ++ wS cyI cyJ z h u)))) (wl := wC g h1 h2 ++ (wB cyI h1 b1 ++ wB cyI h2 b2)) (w1 := wS cyI cyJ z h u) (w2 := wA cyI z19 3 (fun _ => 0)) rfl rfl ?_
        refine g_dup C dL_build_35 36 rfl rfl ?_
        refine g_iconst C dL_build_36 37 rfl ic_0 ?_
        refine g_bipush C dL_build_37 39 rfl bp_9 ?_
        obtain ⟨f20_23, e22, hf⟩ := bd1_s hf
        refine g_iast C 23 0 rfl rfl (stF_in e22) (st_21 (cyI := cyI) (cyZ := cyZ) (cyJ := cyJ) e22) dL_build_39 40 rfl ?_
        refine g_dup C dL_build_40 41 rfl rfl ?_
        refine g_iconst C dL_build_41 42 rfl ic_1 ?_
        refine g_iconst C dL_build_42 43 rfl ic_m1 ?_
        obtain ⟨f20_25, e24, hf⟩ := bd1_s hf
        refine g_iast C 23 0 rfl rfl (stF_in e24) (st_21 (cyI := cyI) (cyZ := cyZ) (cyJ := cyJ) e24) dL_build_43 44 rfl ?_
        refine g_dup C dL_build_44 45 rfl rfl ?_
        refine g_iconst C dL_build_45 46 rfl ic_2 ?_
        refine g_iconst C dL_build_46 47 rfl ic_0 ?_
        obtain ⟨f20_27, e26, hf⟩ := bd1_s hf
        refine g_iast C 23 0 rfl rfl (stF_in e26) (st_21 (cyI := cyI) (cyZ := cyZ) (cyJ := cyJ) e26) dL_build_47 48 rfl ?_
        obtain ⟨u_28, e30, hf⟩ := bd1_s hf
        refine g_addG C hfl gL_build_X2_with ⟨Nat.le_of_ble_eq_true rfl, Nat.le_of_ble_eq_true rfl⟩ (rest := []) (wl := wC g h1 h2 ++ (wB cyI h1 b1 ++ wB cyI h2 b2)) (c2 := cells + 2) (s2 := slots + 35) rfl rfl (by decide) rfl rfl ⟨(by show _ ≤ 3242; omega), (by show _ ≤ 25898; omega)⟩ iX2 kw0 e30 dL_build_48 dL_build_51 54 rfl (fun h29 hz31 => ?_)
        subst hz31
        refine g_aload_n C dL_build_54 55 rfl 0 rfl ?_
        obtain ⟨x32, b1_33, e34, hf⟩ := bz2_s hf
        refine g_callV1 C (m_X1_addGuard_r hfl (g := g) (h1 := h1) (h2 := h2) e34) cf_X1_addGuard gL_build_X1_addGuard ⟨Nat.le_of_ble_eq_true rfl, Nat.le_of_ble_eq_true rfl⟩ (q0 := 0) (As := []) (rest := []) (wl := []) (wr := wS cyI cyJ z h29 u_28) (c2 := cells + 3) (s2 := slots + 41) rfl rfl rfl rfl rfl rfl (Nat.le_of_ble_eq_true rfl) rfl rfl ⟨(by show _ ≤ 3242; omega), (by show _ ≤ 25898; omega)⟩ dL_build_55 58 rfl (ws2 := wC g h1 h2 ++ (wB cyI h1 b1_33 ++ (wB cyI h2 b2 ++ wS cyI cyJ z h29 u_28))) rfl (st2 := [.int x32]) rfl ?_
        refine g_iload C dL_build_58 60 rfl 4 rfl ?_
        refine g_icmp_eq C dL_build_60 65 63 (by decide) rfl (fun c36 => ?_) (fun c36 => ?_)
        · have hf := ifp c36 hf
          refine g_iinc C dL_build_65 68 rfl 4 rfl (ii_1 _) (by decide) (lv' := [(4, .int (l4 + 1)), (0, .ref g), (1, .ref sc.1), (2, .ref z), (3, .int l3)]) rfl ?_
          refine g_goto C dL_build_68 21 (by decide) ?_
          refine g_lv [1, 2, 3, 4, 0] (lv' := [(0, .ref g), (1, .ref sc.1), (2, .ref z), (3, .int l3), (4, .int (l4 + 1))]) rfl ?_
          exact ih (l4 + 1) b1_33 u_28 h29 (cells + 3) (slots + 41) (by omega) (by omega) hf
        · have hf := ifn c36 hf
          cases hf
  have kcl := Cx.w C (.classLink RL 10 RX2) (by decide +kernel)
  have kin := Cx.w C (.instantiable RX2 5) (by decide +kernel)
  have kini := Cx.w C (.initialized RX2) (by decide +kernel)
  have kim := Cx.w C (.instanceMethod yX2_init) (by decide +kernel)
  unfold L_build L_build_F at hf
  refine g_lve (lv' := [(0, .ref g), (1, .ref sc.1)]) rfl ?_
  refine g_new C (ci := 2) (fs := [.int 0, .int 0, .int 0, .null, .null]) iX2 tyX2 tyX2_ok kcl kin kini rfl (by decide) (c2 := 1) (s2 := 5) rfl rfl (Nat.le_of_ble_eq_true rfl) (Nat.le_of_ble_eq_true rfl) dL_build_0 3 rfl (fun z => ?_)
  refine g_dup C dL_build_3 4 rfl rfl ?_
  refine g_callIN C (host := "SleepBorderLaw") (m_X2_init hfl (z := z)) (fun n h => by obtain ⟨_, h⟩ := h; cases h) cf_X2_init gL_build_X2_init_n54 kini (by decide) kim rfl ⟨Nat.le_of_ble_eq_true rfl, Nat.le_of_ble_eq_true rfl⟩ (rest := [.ref z]) (wl := wC g h1 h2 ++ (wB cyI h1 b1 ++ wB cyI h2 b2)) (wr := []) (c2 := 3) (s2 := 5) rfl rfl (Nat.le_of_ble_eq_true rfl) rfl rfl ⟨Nat.le_of_ble_eq_true rfl, Nat.le_of_ble_eq_true rfl⟩ dL_build_4 7 rfl (fun rv W1 hW => ?_)
  obtain ⟨h, hW⟩ := hW
  cases hW
  refine g_ws (ws' := wC g h1 h2 ++ (wB cyI h1 b1 ++ (wB cyI h2 b2 ++ wS cyI cyJ z h zS))) (by rw [List.append_nil] <;> rfl) ?_
  refine g_astore_n C dL_build_7 8 rfl (by decide) (lv' := [(2, .ref z), (0, .ref g), (1, .ref sc.1)]) rfl ?_
  revert hf
  generalize zS = u
  intro hf
  refine g_aload_n C dL_build_8 9 rfl 2 rfl ?_
  refine g_iconst C dL_build_9 10 rfl ic_1 ?_
  obtain ⟨x1, e2, hf⟩ := bd1_s hf
  refine g_callS1 C (m_L_cell hfl  e2) cf_L_cell gL_build_L_cell ⟨Nat.le_of_ble_eq_true rfl, Nat.le_of_ble_eq_true rfl⟩ (As := [.ref sc.1, .int 1]) (rest := []) (wl := []) (wr := wC g h1 h2 ++ (wB cyI h1 b1 ++ (wB cyI h2 b2 ++ wS cyI cyJ z h u))) (c2 := 3) (s2 := 5) rfl rfl rfl (Nat.le_of_ble_eq_true rfl) rfl rfl ⟨Nat.le_of_ble_eq_true rfl, Nat.le_of_ble_eq_true rfl⟩ dL_build_10 13 rfl (ws2 := wC g h1 h2 ++ (wB cyI h1 b1 ++ (wB cyI h2 b2 ++ wS cyI cyJ z h u))) rfl (st2 := [.int x1]) rfl ?_
  refine g_iconst C dL_build_13 14 rfl ic_4 ?_
  obtain ⟨x3, e4, hf⟩ := bd1_s hf
  refine g_callS1 C (m_L_below hfl  e4) cf_L_below gL_build_L_below ⟨Nat.le_of_ble_eq_true rfl, Nat.le_of_ble_eq_true rfl⟩ (As := [.int x1, .int 4]) (rest := []) (wl := []) (wr := wC g h1 h2 ++ (wB cyI h1 b1 ++ (wB cyI h2 b2 ++ wS cyI cyJ z h u))) (c2 := 3) (s2 := 5) rfl rfl rfl (Nat.le_of_ble_eq_true rfl) rfl rfl ⟨Nat.le_of_ble_eq_true rfl, Nat.le_of_ble_eq_true rfl⟩ dL_build_14 17 rfl (ws2 := wC g h1 h2 ++ (wB cyI h1 b1 ++ (wB cyI h2 b2 ++ wS cyI cyJ z h u))) rfl (st2 := [.int x3]) rfl ?_
  refine g_istore_n C dL_build_17 18 rfl (by decide) (lv' := [(3, .int x3), (2, .ref z), (0, .ref g), (1, .ref sc.1)]) rfl ?_
  refine g_iconst C dL_build_18 19 rfl ic_0 ?_
  refine g_istore C dL_build_19 21 rfl (by decide) (lv' := [(4, .int 0), (3, .int x3), (2, .ref z), (0, .ref g), (1, .ref sc.1)]) rfl ?_
  refine g_lv [3, 4, 2, 1, 0] (lv' := [(0, .ref g), (1, .ref sc.1), (2, .ref z), (3, .int x3), (4, .int 0)]) rfl ?_
  exact L21 x3 5 0 b1 u h 3 5 (Nat.le_of_ble_eq_true rfl) (Nat.le_of_ble_eq_true rfl) hf
