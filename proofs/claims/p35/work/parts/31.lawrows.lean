/-! the law does what its function says (laid by wip/p35/gen) -/
set_option maxHeartbeats 8000000 in
set_option maxRecDepth 100000 in
theorem law_main {p : Program} {l : Launch} {e : Env} {s : State} {m : MethodId} {args : Array Value} {below : List Frame} {meth : Method} {c : Code} {Q : State → Prop} {D : va_G} {cyI cyZ cyJ : ClassId} {sc : SC} {A : Nat → Prop} {tb : List ExceptionTableEntry} (C : Cx (ev_s, sc) p l s m args meth c cL_law 22 wsL_law RL D (ty3 cyI cyZ cyJ) A tb) (hfl : l.stackTraces = false) (hEnd : ∀ (ws : va_W) (lv : List (Nat × Value)) (v : Int32) (cells slots pc : Nat), decode cL_law pc = .ok (.ireturn, 1) → v = 1 → cells ≤ 600104 → slots ≤ 7301314 → Gq p l e room_1 s m args below meth c D A 22 Q ws cells slots pc lv [.int v]) {g z : Nat} {h1 h2 : Nat → Nat} {h : Nat → Nat → Nat} {b1 b2 u : S2} (hf : L_law_F sc b1 b2 u = some 1) : Gq p l e room_1 s m args below meth c D A 22 Q (wC g h1 h2 ++ (wB cyI h1 b1 ++ (wB cyI h2 b2 ++ wS cyI cyJ z h u))) 3265 26314 20 [(2, .ref z), (1, .ref g), (0, .ref sc.1)] [] := by
  have kw0 := Cx.w C (.arrayClass .int) (by decide +kernel)
  have kw1 := Cx.w C (.fieldLink RL 9 "SleepBorderLaw$Sim" "travellers" "[[I") (by decide +kernel)
  have iX2 : ∀ w ∈ u_ws RX2 TX2 5, w ∈ wsL_law := by decide +kernel
  have L98 : ∀ {b1 u : S2} (n15 : Nat) (n19 : Nat) (n26 : Nat) (l3 : Int32) (l5 : Int32) (l10 : Int32) (f16 : Nat → Int32) (f20 : Nat → Int32) (f23 : Nat → Int32) (h : Nat → Nat → Nat) (z14 : Nat) (z18 : Nat) (z22 : Nat) (z25 : Nat) (ct st : Nat) (hc1 : ct ≤ 600104) (hc2 : st ≤ 7301314) (K : (Nat → Int32) → Option Int32) (hK : ∀ (f27 : Nat → Int32), K f27 = some 1 → Gq p l e room_1 s m args below meth c D A 22 Q (wC g h1 h2 ++ (wB cyI h1 b1 ++ (wB cyI h2 b2 ++ (wA cyI z14 n15 f16 ++ (wA cyI z18 n19 f20 ++ (wA cyI z22 5 f23 ++ (wA cyI z25 n26 f27 ++ wS cyI cyJ z h u))))))) ct st 210 [(0, .ref sc.1), (1, .ref g), (2, .ref z), (3, .int l3), (5, .int l5), (6, .ref z14), (7, .ref z18), (8, .ref z22), (9, .ref z25), (10, .int l10)] []) (n : Nat) (l11 : Int32) (f27 : Nat → Int32) (cells slots : Nat), cells + n * 7 + 7 ≤ ct → slots + n * 42 + 42 ≤ st → L_law_L98 K sc n15 n19 n26 l3 l5 l10 b1 b2 u f16 f20 f23 n l11 f27 = some 1 → Gq p l e room_1 s m args below meth c D A 22 Q (wC g h1 h2 ++ (wB cyI h1 b1 ++ (wB cyI h2 b2 ++ (wA cyI z14 n15 f16 ++ (wA cyI z18 n19 f20 ++ (wA cyI z22 5 f23 ++ (wA cyI z25 n26 f27 ++ wS cyI cyJ z h u))))))) cells slots 98 [(0, .ref sc.1), (1, .ref g), (2, .ref z), (3, .int l3), (5, .int l5), (6, .ref z14), (7, .ref z18), (8, .ref z22), (9, .ref z25), (10, .int l10), (11, .int l11)] [] := by
    intro b1 u n15 n19 n26 l3 l5 l10 f16 f20 f23 h z14 z18 z22 z25 ct st hc1 hc2 K hK n
    induction n with
    | zero => intro l11 f27 cells slots hd1 hd2 hf; simp [L_law_L98] at hf
    | succ n ih =>
      intro l11 f27 cells slots hd1 hd2 hf
      rw [L_law_L98] at hf
      refine g_iload C dL_law_98 100 rfl 10 rfl ?_
      refine g_aload_n C dL_law_100 101 rfl 1 rfl ?_
      obtain ⟨x29, e30, hf⟩ := bd1_s hf
      refine g_callV1 C (m_X1_guards hfl (g := g) (h1 := h1) (h2 := h2) e30) cf_X1_guards gL_law_X1_guards ⟨Nat.le_of_ble_eq_true rfl, Nat.le_of_ble_eq_true rfl⟩ (q0 := 0) (As := []) (rest := [.int l11]) (wl := []) (wr := wA cyI z14 n15 f16 ++ (wA cyI z18 n19 f20 ++ (wA cyI z22 5 f23 ++ (wA cyI z25 n26 f27 ++ wS cyI cyJ z h u)))) (c2 := cells) (s2 := slots) rfl rfl rfl rfl rfl rfl (Nat.le_of_ble_eq_true rfl) rfl rfl ⟨(by show _ ≤ 600104; omega), (by show _ ≤ 7301314; omega)⟩ dL_law_101 104 rfl (ws2 := wC g h1 h2 ++ (wB cyI h1 b1 ++ (wB cyI h2 b2 ++ (wA cyI z14 n15 f16 ++ (wA cyI z18 n19 f20 ++ (wA cyI z22 5 f23 ++ (wA cyI z25 n26 f27 ++ wS cyI cyJ z h u))))))) rfl (st2 := [.int x29, .int l11]) rfl ?_
      refine g_icmp_ge C dL_law_104 210 107 (by decide) rfl (fun c31 => ?_) (fun c31 => ?_)
      · have hf := ifp c31 hf
        refine g_lv [0, 1, 2, 3, 4, 5, 6, 7, 8, 9] (lv' := [(0, .ref sc.1), (1, .ref g), (2, .ref z), (3, .int l3), (5, .int l5), (6, .ref z14), (7, .ref z18), (8, .ref z22), (9, .ref z25), (10, .int l10)]) rfl ?_
        refine g_wide (c2 := ct) (s2 := st) (by omega) (by omega) ?_
        exact hK f27 hf
      · have hf := ifn c31 hf
        refine g_aload_n C dL_law_107 108 rfl 1 rfl ?_
        refine g_iload C dL_law_108 110 rfl 10 rfl ?_
        obtain ⟨x32, e33, hf⟩ := bz1_s hf
        refine g_callV1 C (m_X1_searches_r hfl (g := g) (h1 := h1) (h2 := h2) e33) cf_X1_searches gL_law_X1_searches ⟨Nat.le_of_ble_eq_true rfl, Nat.le_of_ble_eq_true rfl⟩ (q0 := 0) (As := [.int l11]) (rest := []) (wl := []) (wr := wA cyI z14 n15 f16 ++ (wA cyI z18 n19 f20 ++ (wA cyI z22 5 f23 ++ (wA cyI z25 n26 f27 ++ wS cyI cyJ z h u)))) (c2 := cells + 1) (s2 := slots + 6) rfl rfl rfl rfl rfl rfl (Nat.le_of_ble_eq_true rfl) rfl rfl ⟨(by show _ ≤ 600104; omega), (by show _ ≤ 7301314; omega)⟩ dL_law_110 113 rfl (ws2 := wC g h1 h2 ++ (wB cyI h1 b1 ++ (wB cyI h2 b2 ++ (wA cyI z14 n15 f16 ++ (wA cyI z18 n19 f20 ++ (wA cyI z22 5 f23 ++ (wA cyI z25 n26 f27 ++ wS cyI cyJ z h u))))))) rfl (st2 := [.int x32]) rfl ?_
        refine g_istore C dL_law_113 115 rfl (by decide) (lv' := [(12, .int x32), (0, .ref sc.1), (1, .ref g), (2, .ref z), (3, .int l3), (5, .int l5), (6, .ref z14), (7, .ref z18), (8, .ref z22), (9, .ref z25), (10, .int l10), (11, .int l11)]) rfl ?_
        refine g_aload_n C dL_law_115 116 rfl 2 rfl ?_
        refine g_iload C dL_law_116 118 rfl 11 rfl ?_
        obtain ⟨x35, e36, hf⟩ := bz1_s hf
        refine g_callV1 C (m_X1_alertnessOf_r hfl (g := g) (h1 := h1) (h2 := h2) e36) cf_X1_alertnessOf gL_law_X1_alertnessOf ⟨Nat.le_of_ble_eq_true rfl, Nat.le_of_ble_eq_true rfl⟩ (q0 := 0) (As := [.int l11]) (rest := []) (wl := []) (wr := wA cyI z14 n15 f16 ++ (wA cyI z18 n19 f20 ++ (wA cyI z22 5 f23 ++ (wA cyI z25 n26 f27 ++ wS cyI cyJ z h u)))) (c2 := cells + 2) (s2 := slots + 12) rfl rfl rfl rfl rfl rfl (Nat.le_of_ble_eq_true rfl) rfl rfl ⟨(by show _ ≤ 600104; omega), (by show _ ≤ 7301314; omega)⟩ dL_law_118 121 rfl (ws2 := wC g h1 h2 ++ (wB cyI h1 b1 ++ (wB cyI h2 b2 ++ (wA cyI z14 n15 f16 ++ (wA cyI z18 n19 f20 ++ (wA cyI z22 5 f23 ++ (wA cyI z25 n26 f27 ++ wS cyI cyJ z h u))))))) rfl (st2 := [.int x35]) rfl ?_
        refine g_if_lt C dL_law_121 188 124 (by decide) rfl (fun c38 => ?_) (fun c38 => ?_)
        · have hf := ifp c38 hf
          refine g_iconst C dL_law_188 189 rfl ic_0 ?_
          exact absurd (Option.some.inj hf) (by decide)
        · have hf := ifn c38 hf
          refine g_aload_n C dL_law_124 125 rfl 2 rfl ?_
          refine g_iload C dL_law_125 127 rfl 11 rfl ?_
          obtain ⟨x39, e40, hf⟩ := bz1_s hf
          refine g_callV1 C (m_X1_alertnessOf_r hfl (g := g) (h1 := h1) (h2 := h2) e40) cf_X1_alertnessOf gL_law_X1_alertnessOf ⟨Nat.le_of_ble_eq_true rfl, Nat.le_of_ble_eq_true rfl⟩ (q0 := 0) (As := [.int l11]) (rest := []) (wl := []) (wr := wA cyI z14 n15 f16 ++ (wA cyI z18 n19 f20 ++ (wA cyI z22 5 f23 ++ (wA cyI z25 n26 f27 ++ wS cyI cyJ z h u)))) (c2 := cells + 3) (s2 := slots + 18) rfl rfl rfl rfl rfl rfl (Nat.le_of_ble_eq_true rfl) rfl rfl ⟨(by show _ ≤ 600104; omega), (by show _ ≤ 7301314; omega)⟩ dL_law_127 130 rfl (ws2 := wC g h1 h2 ++ (wB cyI h1 b1 ++ (wB cyI h2 b2 ++ (wA cyI z14 n15 f16 ++ (wA cyI z18 n19 f20 ++ (wA cyI z22 5 f23 ++ (wA cyI z25 n26 f27 ++ wS cyI cyJ z h u))))))) rfl (st2 := [.int x39]) rfl ?_
          refine g_bipush C dL_law_130 132 rfl bp_9 ?_
          refine g_icmp_gt C dL_law_132 188 135 (by decide) rfl (fun c42 => ?_) (fun c42 => ?_)
          · have hf := ifp c42 hf
            refine g_iconst C dL_law_188 189 rfl ic_0 ?_
            exact absurd (Option.some.inj hf) (by decide)
          · have hf := ifn c42 hf
            refine g_aload_n C dL_law_135 136 rfl 2 rfl ?_
            refine g_iload C dL_law_136 138 rfl 11 rfl ?_
            obtain ⟨x43, e44, hf⟩ := bz1_s hf
            refine g_callV1 C (m_X1_alertnessOf_r hfl (g := g) (h1 := h1) (h2 := h2) e44) cf_X1_alertnessOf gL_law_X1_alertnessOf ⟨Nat.le_of_ble_eq_true rfl, Nat.le_of_ble_eq_true rfl⟩ (q0 := 0) (As := [.int l11]) (rest := []) (wl := []) (wr := wA cyI z14 n15 f16 ++ (wA cyI z18 n19 f20 ++ (wA cyI z22 5 f23 ++ (wA cyI z25 n26 f27 ++ wS cyI cyJ z h u)))) (c2 := cells + 4) (s2 := slots + 24) rfl rfl rfl rfl rfl rfl (Nat.le_of_ble_eq_true rfl) rfl rfl ⟨(by show _ ≤ 600104; omega), (by show _ ≤ 7301314; omega)⟩ dL_law_138 141 rfl (ws2 := wC g h1 h2 ++ (wB cyI h1 b1 ++ (wB cyI h2 b2 ++ (wA cyI z14 n15 f16 ++ (wA cyI z18 n19 f20 ++ (wA cyI z22 5 f23 ++ (wA cyI z25 n26 f27 ++ wS cyI cyJ z h u))))))) rfl (st2 := [.int x43]) rfl ?_
            refine g_aload_n C dL_law_141 142 rfl 2 rfl ?_
            refine g_aload_n C dL_law_142 143 rfl 2 rfl ?_
            obtain ⟨x46, e47, hf⟩ := bd1_s hf
            refine g_callV1 C (m_X1_mostAlert hfl (g := g) (h1 := h1) (h2 := h2) e47) cf_X1_mostAlert gL_law_X1_mostAlert ⟨Nat.le_of_ble_eq_true rfl, Nat.le_of_ble_eq_true rfl⟩ (q0 := 0) (As := []) (rest := [.ref g, .int x43]) (wl := []) (wr := wA cyI z14 n15 f16 ++ (wA cyI z18 n19 f20 ++ (wA cyI z22 5 f23 ++ (wA cyI z25 n26 f27 ++ wS cyI cyJ z h u)))) (c2 := cells + 4) (s2 := slots + 24) rfl rfl rfl rfl rfl rfl (Nat.le_of_ble_eq_true rfl) rfl rfl ⟨(by show _ ≤ 600104; omega), (by show _ ≤ 7301314; omega)⟩ dL_law_143 146 rfl (ws2 := wC g h1 h2 ++ (wB cyI h1 b1 ++ (wB cyI h2 b2 ++ (wA cyI z14 n15 f16 ++ (wA cyI z18 n19 f20 ++ (wA cyI z22 5 f23 ++ (wA cyI z25 n26 f27 ++ wS cyI cyJ z h u))))))) rfl (st2 := [.int x46, .ref g, .int x43]) rfl ?_
            obtain ⟨x48, e49, hf⟩ := bz1_s hf
            refine g_callV1 C (m_X1_alertnessOf_r hfl (g := g) (h1 := h1) (h2 := h2) e49) cf_X1_alertnessOf gL_law_X1_alertnessOf ⟨Nat.le_of_ble_eq_true rfl, Nat.le_of_ble_eq_true rfl⟩ (q0 := 0) (As := [.int x46]) (rest := [.int x43]) (wl := []) (wr := wA cyI z14 n15 f16 ++ (wA cyI z18 n19 f20 ++ (wA cyI z22 5 f23 ++ (wA cyI z25 n26 f27 ++ wS cyI cyJ z h u)))) (c2 := cells + 5) (s2 := slots + 30) rfl rfl rfl rfl rfl rfl (Nat.le_of_ble_eq_true rfl) rfl rfl ⟨(by show _ ≤ 600104; omega), (by show _ ≤ 7301314; omega)⟩ dL_law_146 149 rfl (ws2 := wC g h1 h2 ++ (wB cyI h1 b1 ++ (wB cyI h2 b2 ++ (wA cyI z14 n15 f16 ++ (wA cyI z18 n19 f20 ++ (wA cyI z22 5 f23 ++ (wA cyI z25 n26 f27 ++ wS cyI cyJ z h u))))))) rfl (st2 := [.int x48, .int x43]) rfl ?_
            refine g_icmp_gt C dL_law_149 188 152 (by decide) rfl (fun c51 => ?_) (fun c51 => ?_)
            · have hf := ifp c51 hf
              refine g_iconst C dL_law_188 189 rfl ic_0 ?_
              exact absurd (Option.some.inj hf) (by decide)
            · have hf := ifn c51 hf
              refine g_iload C dL_law_152 154 rfl 0 rfl ?_
              refine jo1_s (P := fun (j53 : Int32) => Gq p l e room_1 s m args below meth c D A 22 Q (wC g h1 h2 ++ (wB cyI h1 b1 ++ (wB cyI h2 b2 ++ (wA cyI z14 n15 f16 ++ (wA cyI z18 n19 f20 ++ (wA cyI z22 5 f23 ++ (wA cyI z25 n26 f27 ++ wS cyI cyJ z h u))))))) (cells + 5) (slots + 30) 162 [(0, .ref sc.1), (1, .ref g), (2, .ref z), (3, .int l3), (5, .int l5), (6, .ref z14), (7, .ref z18), (8, .ref z22), (9, .ref z25), (10, .int l10), (11, .int l11), (12, .int x32)] [.int j53]) hf (fun j53 hf => ?_) (fun K52 hK52 hf => ?_)
              · refine g_aload_n C dL_law_162 163 rfl 1 rfl ?_
                refine g_iload C dL_law_163 165 rfl 10 rfl ?_
                obtain ⟨x54, e55, hf⟩ := bz1_s hf
                refine g_callV1 C (m_X1_minutesToGo_r hfl (g := g) (h1 := h1) (h2 := h2) e55) cf_X1_minutesToGo gL_law_X1_minutesToGo ⟨Nat.le_of_ble_eq_true rfl, Nat.le_of_ble_eq_true rfl⟩ (q0 := 0) (As := [.int l11]) (rest := [.int j53]) (wl := []) (wr := wA cyI z14 n15 f16 ++ (wA cyI z18 n19 f20 ++ (wA cyI z22 5 f23 ++ (wA cyI z25 n26 f27 ++ wS cyI cyJ z h u)))) (c2 := cells + 6) (s2 := slots + 36) rfl rfl rfl rfl rfl rfl (Nat.le_of_ble_eq_true rfl) rfl rfl ⟨(by show _ ≤ 600104; omega), (by show _ ≤ 7301314; omega)⟩ dL_law_165 168 rfl (ws2 := wC g h1 h2 ++ (wB cyI h1 b1 ++ (wB cyI h2 b2 ++ (wA cyI z14 n15 f16 ++ (wA cyI z18 n19 f20 ++ (wA cyI z22 5 f23 ++ (wA cyI z25 n26 f27 ++ wS cyI cyJ z h u))))))) rfl (st2 := [.int x54, .int j53]) rfl ?_
                refine jo1_s (P := fun (j58 : Int32) => Gq p l e room_1 s m args below meth c D A 22 Q (wC g h1 h2 ++ (wB cyI h1 b1 ++ (wB cyI h2 b2 ++ (wA cyI z14 n15 f16 ++ (wA cyI z18 n19 f20 ++ (wA cyI z22 5 f23 ++ (wA cyI z25 n26 f27 ++ wS cyI cyJ z h u))))))) (cells + 6) (slots + 36) 176 [(0, .ref sc.1), (1, .ref g), (2, .ref z), (3, .int l3), (5, .int l5), (6, .ref z14), (7, .ref z18), (8, .ref z22), (9, .ref z25), (10, .int l10), (11, .int l11), (12, .int x32)] [.int j58, .int j53]) hf (fun j58 hf => ?_) (fun K57 hK57 hf => ?_)
                · refine g_icmp_ne C dL_law_176 188 179 (by decide) rfl (fun c59 => ?_) (fun c59 => ?_)
                  · have hf := ifn c59 hf
                    refine g_iconst C dL_law_188 189 rfl ic_0 ?_
                    exact absurd (Option.some.inj hf) (by decide)
                  · have hf := ifp c59 hf
                    refine g_aload_n C dL_law_179 180 rfl 1 rfl ?_
                    refine g_iload C dL_law_180 182 rfl 10 rfl ?_
                    obtain ⟨x60, e61, hf⟩ := bz1_s hf
                    refine g_callV1 C (m_X1_minutesToGo_r hfl (g := g) (h1 := h1) (h2 := h2) e61) cf_X1_minutesToGo gL_law_X1_minutesToGo ⟨Nat.le_of_ble_eq_true rfl, Nat.le_of_ble_eq_true rfl⟩ (q0 := 0) (As := [.int l11]) (rest := []) (wl := []) (wr := wA cyI z14 n15 f16 ++ (wA cyI z18 n19 f20 ++ (wA cyI z22 5 f23 ++ (wA cyI z25 n26 f27 ++ wS cyI cyJ z h u)))) (c2 := cells + 7) (s2 := slots + 42) rfl rfl rfl rfl rfl rfl (Nat.le_of_ble_eq_true rfl) rfl rfl ⟨(by show _ ≤ 600104; omega), (by show _ ≤ 7301314; omega)⟩ dL_law_182 185 rfl (ws2 := wC g h1 h2 ++ (wB cyI h1 b1 ++ (wB cyI h2 b2 ++ (wA cyI z14 n15 f16 ++ (wA cyI z18 n19 f20 ++ (wA cyI z22 5 f23 ++ (wA cyI z25 n26 f27 ++ wS cyI cyJ z h u))))))) rfl (st2 := [.int x60]) rfl ?_
                    refine g_if_ge C dL_law_185 190 188 (by decide) rfl (fun c63 => ?_) (fun c63 => ?_)
                    · have hf := ifp c63 hf
                      refine g_iload C dL_law_190 192 rfl 11 rfl ?_
                      refine g_if_lt C dL_law_192 204 195 (by decide) rfl (fun c64 => ?_) (fun c64 => ?_)
                      · have hf := ifp c64 hf
                        refine g_iinc C dL_law_204 207 rfl 10 rfl (ii_1 _) (by decide) (lv' := [(11, .int (l11 + 1)), (0, .ref sc.1), (1, .ref g), (2, .ref z), (3, .int l3), (5, .int l5), (6, .ref z14), (7, .ref z18), (8, .ref z22), (9, .ref z25), (10, .int l10), (12, .int x32)]) rfl ?_
                        refine g_goto C dL_law_207 98 (by decide) ?_
                        refine g_lv [1, 2, 3, 4, 5, 6, 7, 8, 9, 10, 0] (lv' := [(0, .ref sc.1), (1, .ref g), (2, .ref z), (3, .int l3), (5, .int l5), (6, .ref z14), (7, .ref z18), (8, .ref z22), (9, .ref z25), (10, .int l10), (11, .int (l11 + 1))]) rfl ?_
                        exact ih (l11 + 1) f27 (cells + 7) (slots + 42) (by omega) (by omega) hf
                      · have hf := ifn c64 hf
                        refine g_aload C dL_law_195 197 rfl 8 rfl ?_
                        refine g_iload C dL_law_197 199 rfl 11 rfl ?_
                        refine g_dup2 C dL_law_199 200 rfl rfl rfl ?_
                        obtain ⟨x66, e65, hf⟩ := bd1_s hf
                        refine g_iald C 26 0 rfl rfl e65 dL_law_200 201 rfl ?_
                        refine g_iconst C dL_law_201 202 rfl ic_1 ?_
                        refine g_iadd C dL_law_202 203 rfl ?_
                        obtain ⟨f27_68, e67, hf⟩ := bd1_s hf
                        refine g_iast C 26 0 rfl rfl (stF_in e67) (st_22 (cyI := cyI) (cyZ := cyZ) (cyJ := cyJ) e67) dL_law_203 204 rfl ?_
                        refine g_iinc C dL_law_204 207 rfl 10 rfl (ii_1 _) (by decide) (lv' := [(11, .int (l11 + 1)), (0, .ref sc.1), (1, .ref g), (2, .ref z), (3, .int l3), (5, .int l5), (6, .ref z14), (7, .ref z18), (8, .ref z22), (9, .ref z25), (10, .int l10), (12, .int x32)]) rfl ?_
                        refine g_goto C dL_law_207 98 (by decide) ?_
                        refine g_lv [1, 2, 3, 4, 5, 6, 7, 8, 9, 10, 0] (lv' := [(0, .ref sc.1), (1, .ref g), (2, .ref z), (3, .int l3), (5, .int l5), (6, .ref z14), (7, .ref z18), (8, .ref z22), (9, .ref z25), (10, .int l10), (11, .int (l11 + 1))]) rfl ?_
                        exact ih (l11 + 1) f27_68 (cells + 7) (slots + 42) (by omega) (by omega) hf
                    · have hf := ifn c63 hf
                      refine g_iconst C dL_law_188 189 rfl ic_0 ?_
                      exact absurd (Option.some.inj hf) (by decide)
                · refine g_if_ne C dL_law_168 175 171 (by decide) rfl (fun c69 => ?_) (fun c69 => ?_)
                  · have hf := ifn c69 hf
                    refine g_iconst C dL_law_175 176 rfl ic_0 ?_
                    exact hK57 0 hf
                  · have hf := ifp c69 hf
                    refine g_iconst C dL_law_171 172 rfl ic_1 ?_
                    refine g_goto C dL_law_172 176 (by decide) ?_
                    exact hK57 1 hf
              · refine g_if_ge C dL_law_154 161 157 (by decide) rfl (fun c70 => ?_) (fun c70 => ?_)
                · have hf := ifp c70 hf
                  refine g_iconst C dL_law_161 162 rfl ic_0 ?_
                  refine g_lv [1, 2, 3, 4, 5, 6, 7, 8, 9, 10, 11, 0] (lv' := [(0, .ref sc.1), (1, .ref g), (2, .ref z), (3, .int l3), (5, .int l5), (6, .ref z14), (7, .ref z18), (8, .ref z22), (9, .ref z25), (10, .int l10), (11, .int l11), (12, .int x32)]) rfl ?_
                  exact hK52 0 hf
                · have hf := ifn c70 hf
                  refine g_iconst C dL_law_157 158 rfl ic_1 ?_
                  refine g_goto C dL_law_158 162 (by decide) ?_
                  refine g_lv [1, 2, 3, 4, 5, 6, 7, 8, 9, 10, 11, 0] (lv' := [(0, .ref sc.1), (1, .ref g), (2, .ref z), (3, .int l3), (5, .int l5), (6, .ref z14), (7, .ref z18), (8, .ref z22), (9, .ref z25), (10, .int l10), (11, .int l11), (12, .int x32)]) rfl ?_
                  exact hK52 1 hf
  have L216 : ∀ {b1 u : S2} (n15 : Nat) (n19 : Nat) (n26 : Nat) (l3 : Int32) (l5 : Int32) (f27 : Nat → Int32) (h : Nat → Nat → Nat) (z14 : Nat) (z18 : Nat) (z22 : Nat) (z25 : Nat) (ct st : Nat) (hc1 : ct ≤ 600104) (hc2 : st ≤ 7301314) (K : Int32 → (Nat → Int32) → (Nat → Int32) → (Nat → Int32) → Option Int32) (hK : ∀ (l10 : Int32) (f16 : Nat → Int32) (f20 : Nat → Int32) (f23 : Nat → Int32), K l10 f16 f20 f23 = some 1 → Gq p l e room_1 s m args below meth c D A 22 Q (wC g h1 h2 ++ (wB cyI h1 b1 ++ (wB cyI h2 b2 ++ (wA cyI z14 n15 f16 ++ (wA cyI z18 n19 f20 ++ (wA cyI z22 5 f23 ++ (wA cyI z25 n26 f27 ++ wS cyI cyJ z h u))))))) ct st 452 [(0, .ref sc.1), (1, .ref g), (2, .ref z), (3, .int l3), (5, .int l5), (6, .ref z14), (7, .ref z18), (8, .ref z22), (10, .int l10)] []) (n : Nat) (l10 : Int32) (l11 : Int32) (l12 : Int32) (f16 : Nat → Int32) (f20 : Nat → Int32) (f23 : Nat → Int32) (cells slots : Nat), cells + n * 6 + 6 ≤ ct → slots + n * 36 + 36 ≤ st → L_law_L216 K sc n15 n19 n26 l3 l5 b1 b2 u f27 n l10 l11 l12 f16 f20 f23 = some 1 → Gq p l e room_1 s m args below meth c D A 22 Q (wC g h1 h2 ++ (wB cyI h1 b1 ++ (wB cyI h2 b2 ++ (wA cyI z14 n15 f16 ++ (wA cyI z18 n19 f20 ++ (wA cyI z22 5 f23 ++ (wA cyI z25 n26 f27 ++ wS cyI cyJ z h u))))))) cells slots 216 [(0, .ref sc.1), (1, .ref g), (2, .ref z), (3, .int l3), (5, .int l5), (6, .ref z14), (7, .ref z18), (8, .ref z22), (9, .ref z25), (10, .int l10), (11, .int l11), (12, .int l12)] [] := by
    intro b1 u n15 n19 n26 l3 l5 f27 h z14 z18 z22 z25 ct st hc1 hc2 K hK n
    induction n with
    | zero => intro l10 l11 l12 f16 f20 f23 cells slots hd1 hd2 hf; simp [L_law_L216] at hf
    | succ n ih =>
      intro l10 l11 l12 f16 f20 f23 cells slots hd1 hd2 hf
      rw [L_law_L216] at hf
      refine g_iload C dL_law_216 218 rfl 11 rfl ?_
      refine g_iload C dL_law_218 220 rfl 4 rfl ?_
      refine g_icmp_ge C dL_law_220 452 223 (by decide) rfl (fun c72 => ?_) (fun c72 => ?_)
      · have hf := ifp c72 hf
        refine g_lv [0, 1, 2, 3, 4, 5, 6, 7, 9] (lv' := [(0, .ref sc.1), (1, .ref g), (2, .ref z), (3, .int l3), (5, .int l5), (6, .ref z14), (7, .ref z18), (8, .ref z22), (10, .int l10)]) rfl ?_
        refine g_wide (c2 := ct) (s2 := st) (by omega) (by omega) ?_
        exact hK l10 f16 f20 f23 hf
      · have hf := ifn c72 hf
        refine g_aload C dL_law_223 225 rfl 5 rfl ?_
        refine g_iload C dL_law_225 227 rfl 11 rfl ?_
        refine g_aload_n C dL_law_227 228 rfl 1 rfl ?_
        refine g_iload C dL_law_228 230 rfl 11 rfl ?_
        obtain ⟨x73, e74, hf⟩ := bz1_s hf
        refine g_callV1 C (m_X1_stateOf_r hfl (g := g) (h1 := h1) (h2 := h2) e74) cf_X1_stateOf gL_law_X1_stateOf ⟨Nat.le_of_ble_eq_true rfl, Nat.le_of_ble_eq_true rfl⟩ (q0 := 0) (As := [.int l12]) (rest := [.int l12, .ref z14]) (wl := []) (wr := wA cyI z14 n15 f16 ++ (wA cyI z18 n19 f20 ++ (wA cyI z22 5 f23 ++ (wA cyI z25 n26 f27 ++ wS cyI cyJ z h u)))) (c2 := cells + 1) (s2 := slots + 6) rfl rfl rfl rfl rfl rfl (Nat.le_of_ble_eq_true rfl) rfl rfl ⟨(by show _ ≤ 600104; omega), (by show _ ≤ 7301314; omega)⟩ dL_law_230 233 rfl (ws2 := wC g h1 h2 ++ (wB cyI h1 b1 ++ (wB cyI h2 b2 ++ (wA cyI z14 n15 f16 ++ (wA cyI z18 n19 f20 ++ (wA cyI z22 5 f23 ++ (wA cyI z25 n26 f27 ++ wS cyI cyJ z h u))))))) rfl (st2 := [.int x73, .int l12, .ref z14]) rfl ?_
        obtain ⟨f16_77, e76, hf⟩ := bd1_s hf
        refine g_iast C 23 0 rfl rfl (stF_in e76) (st_23 (cyI := cyI) (cyZ := cyZ) (cyJ := cyJ) e76) dL_law_233 234 rfl ?_
        refine g_aload C dL_law_234 236 rfl 6 rfl ?_
        refine g_iload C dL_law_236 238 rfl 11 rfl ?_
        refine g_aload_n C dL_law_238 239 rfl 1 rfl ?_
        refine g_iload C dL_law_239 241 rfl 11 rfl ?_
        obtain ⟨x78, e79, hf⟩ := bz1_s hf
        refine g_callV1 C (m_X1_lullabyOf_r hfl (g := g) (h1 := h1) (h2 := h2) e79) cf_X1_lullabyOf gL_law_X1_lullabyOf ⟨Nat.le_of_ble_eq_true rfl, Nat.le_of_ble_eq_true rfl⟩ (q0 := 0) (As := [.int l12]) (rest := [.int l12, .ref z18]) (wl := []) (wr := wA cyI z14 n15 f16_77 ++ (wA cyI z18 n19 f20 ++ (wA cyI z22 5 f23 ++ (wA cyI z25 n26 f27 ++ wS cyI cyJ z h u)))) (c2 := cells + 2) (s2 := slots + 12) rfl rfl rfl rfl rfl rfl (Nat.le_of_ble_eq_true rfl) rfl rfl ⟨(by show _ ≤ 600104; omega), (by show _ ≤ 7301314; omega)⟩ dL_law_241 244 rfl (ws2 := wC g h1 h2 ++ (wB cyI h1 b1 ++ (wB cyI h2 b2 ++ (wA cyI z14 n15 f16_77 ++ (wA cyI z18 n19 f20 ++ (wA cyI z22 5 f23 ++ (wA cyI z25 n26 f27 ++ wS cyI cyJ z h u))))))) rfl (st2 := [.int x78, .int l12, .ref z18]) rfl ?_
        obtain ⟨f20_82, e81, hf⟩ := bd1_s hf
        refine g_iast C 24 0 rfl rfl (stF_in e81) (st_24 (cyI := cyI) (cyZ := cyZ) (cyJ := cyJ) e81) dL_law_244 245 rfl ?_
        refine g_aload C dL_law_245 247 rfl 5 rfl ?_
        refine g_iload C dL_law_247 249 rfl 11 rfl ?_
        obtain ⟨x84, e83, hf⟩ := bd1_s hf
        refine g_iald C 23 0 rfl rfl e83 dL_law_249 250 rfl ?_
        refine g_if_lt C dL_law_250 262 253 (by decide) rfl (fun c85 => ?_) (fun c85 => ?_)
        · have hf := ifp c85 hf
          refine g_iconst C dL_law_262 263 rfl ic_0 ?_
          exact absurd (Option.some.inj hf) (by decide)
        · have hf := ifn c85 hf
          refine g_aload C dL_law_253 255 rfl 5 rfl ?_
          refine g_iload C dL_law_255 257 rfl 11 rfl ?_
          obtain ⟨x87, e86, hf⟩ := bd1_s hf
          refine g_iald C 23 0 rfl rfl e86 dL_law_257 258 rfl ?_
          refine g_iconst C dL_law_258 259 rfl ic_4 ?_
          refine g_icmp_le C dL_law_259 264 262 (by decide) rfl (fun c88 => ?_) (fun c88 => ?_)
          · have hf := ifp c88 hf
            refine g_aload C dL_law_264 266 rfl 7 rfl ?_
            refine g_aload C dL_law_266 268 rfl 5 rfl ?_
            refine g_iload C dL_law_268 270 rfl 11 rfl ?_
            obtain ⟨x90, e89, hf⟩ := bd1_s hf
            refine g_iald C 23 0 rfl rfl e89 dL_law_270 271 rfl ?_
            refine g_dup2 C dL_law_271 272 rfl rfl rfl ?_
            obtain ⟨x92, e91, hf⟩ := bd1_s hf
            refine g_iald C 25 0 rfl rfl e91 dL_law_272 273 rfl ?_
            refine g_iconst C dL_law_273 274 rfl ic_1 ?_
            refine g_iadd C dL_law_274 275 rfl ?_
            obtain ⟨f23_94, e93, hf⟩ := bd1_s hf
            refine g_iast C 25 0 rfl rfl (stF_in e93) (st_25 (cyI := cyI) (cyZ := cyZ) (cyJ := cyJ) e93) dL_law_275 276 rfl ?_
            refine g_aload C dL_law_276 278 rfl 5 rfl ?_
            refine g_iload C dL_law_278 280 rfl 11 rfl ?_
            obtain ⟨x96, e95, hf⟩ := bd1_s hf
            refine g_iald C 23 0 rfl rfl e95 dL_law_280 281 rfl ?_
            refine jo0_s (P := Gq p l e room_1 s m args below meth c D A 22 Q (wC g h1 h2 ++ (wB cyI h1 b1 ++ (wB cyI h2 b2 ++ (wA cyI z14 n15 f16_77 ++ (wA cyI z18 n19 f20_82 ++ (wA cyI z22 5 f23_94 ++ (wA cyI z25 n26 f27 ++ wS cyI cyJ z h u))))))) (cells + 2) (slots + 12) 300 [(0, .ref sc.1), (1, .ref g), (2, .ref z), (3, .int l3), (5, .int l5), (6, .ref z14), (7, .ref z18), (8, .ref z22), (9, .ref z25), (10, .int l10), (11, .int l11), (12, .int l12)] []) hf (fun hf => ?_) (fun K97 hK97 hf => ?_)
            · refine g_aload C dL_law_300 302 rfl 8 rfl ?_
              refine g_iload C dL_law_302 304 rfl 11 rfl ?_
              obtain ⟨x99, e98, hf⟩ := bd1_s hf
              refine g_iald C 26 0 rfl rfl e98 dL_law_304 305 rfl ?_
              refine g_aload C dL_law_305 307 rfl 5 rfl ?_
              refine g_iload C dL_law_307 309 rfl 11 rfl ?_
              obtain ⟨x101, e100, hf⟩ := bd1_s hf
              refine g_iald C 23 0 rfl rfl e100 dL_law_309 310 rfl ?_
              refine g_iconst C dL_law_310 311 rfl ic_1 ?_
              refine jo1_s (P := fun (j103 : Int32) => Gq p l e room_1 s m args below meth c D A 22 Q (wC g h1 h2 ++ (wB cyI h1 b1 ++ (wB cyI h2 b2 ++ (wA cyI z14 n15 f16_77 ++ (wA cyI z18 n19 f20_82 ++ (wA cyI z22 5 f23_94 ++ (wA cyI z25 n26 f27 ++ wS cyI cyJ z h u))))))) (cells + 2) (slots + 12) 319 [(0, .ref sc.1), (1, .ref g), (2, .ref z), (3, .int l3), (5, .int l5), (6, .ref z14), (7, .ref z18), (8, .ref z22), (9, .ref z25), (10, .int l10), (11, .int l11), (12, .int l12)] [.int j103, .int x99]) hf (fun j103 hf => ?_) (fun K102 hK102 hf => ?_)
              · refine g_icmp_ne C dL_law_319 399 322 (by decide) rfl (fun c104 => ?_) (fun c104 => ?_)
                · have hf := ifn c104 hf
                  refine g_iconst C dL_law_399 400 rfl ic_0 ?_
                  exact absurd (Option.some.inj hf) (by decide)
                · have hf := ifp c104 hf
                  refine g_aload_n C dL_law_322 323 rfl 1 rfl ?_
                  refine g_iload C dL_law_323 325 rfl 11 rfl ?_
                  obtain ⟨x105, e106, hf⟩ := bz1_s hf
                  refine g_callV1 C (m_X1_placeInLine_r hfl (g := g) (h1 := h1) (h2 := h2) e106) cf_X1_placeInLine gL_law_X1_placeInLine ⟨Nat.le_of_ble_eq_true rfl, Nat.le_of_ble_eq_true rfl⟩ (q0 := 0) (As := [.int l12]) (rest := []) (wl := []) (wr := wA cyI z14 n15 f16_77 ++ (wA cyI z18 n19 f20_82 ++ (wA cyI z22 5 f23_94 ++ (wA cyI z25 n26 f27 ++ wS cyI cyJ z h u)))) (c2 := cells + 3) (s2 := slots + 18) rfl rfl rfl rfl rfl rfl (Nat.le_of_ble_eq_true rfl) rfl rfl ⟨(by show _ ≤ 600104; omega), (by show _ ≤ 7301314; omega)⟩ dL_law_325 328 rfl (ws2 := wC g h1 h2 ++ (wB cyI h1 b1 ++ (wB cyI h2 b2 ++ (wA cyI z14 n15 f16_77 ++ (wA cyI z18 n19 f20_82 ++ (wA cyI z22 5 f23_94 ++ (wA cyI z25 n26 f27 ++ wS cyI cyJ z h u))))))) rfl (st2 := [.int x105]) rfl ?_
                  refine g_aload C dL_law_328 330 rfl 5 rfl ?_
                  refine g_iload C dL_law_330 332 rfl 11 rfl ?_
                  obtain ⟨x109, e108, hf⟩ := bd1_s hf
                  refine g_iald C 23 0 rfl rfl e108 dL_law_332 333 rfl ?_
                  refine jo1_s (P := fun (j111 : Int32) => Gq p l e room_1 s m args below meth c D A 22 Q (wC g h1 h2 ++ (wB cyI h1 b1 ++ (wB cyI h2 b2 ++ (wA cyI z14 n15 f16_77 ++ (wA cyI z18 n19 f20_82 ++ (wA cyI z22 5 f23_94 ++ (wA cyI z25 n26 f27 ++ wS cyI cyJ z h u))))))) (cells + 3) (slots + 18) 342 [(0, .ref sc.1), (1, .ref g), (2, .ref z), (3, .int l3), (5, .int l5), (6, .ref z14), (7, .ref z18), (8, .ref z22), (9, .ref z25), (10, .int l10), (11, .int l11), (12, .int l12)] [.int j111, .int x105]) hf (fun j111 hf => ?_) (fun K110 hK110 hf => ?_)
                  · refine g_icmp_ne C dL_law_342 399 345 (by decide) rfl (fun c112 => ?_) (fun c112 => ?_)
                    · have hf := ifn c112 hf
                      refine g_iconst C dL_law_399 400 rfl ic_0 ?_
                      exact absurd (Option.some.inj hf) (by decide)
                    · have hf := ifp c112 hf
                      refine g_aload C dL_law_345 347 rfl 5 rfl ?_
                      refine g_iload C dL_law_347 349 rfl 11 rfl ?_
                      obtain ⟨x114, e113, hf⟩ := bd1_s hf
                      refine g_iald C 23 0 rfl rfl e113 dL_law_349 350 rfl ?_
                      refine jo0_s (P := Gq p l e room_1 s m args below meth c D A 22 Q (wC g h1 h2 ++ (wB cyI h1 b1 ++ (wB cyI h2 b2 ++ (wA cyI z14 n15 f16_77 ++ (wA cyI z18 n19 f20_82 ++ (wA cyI z22 5 f23_94 ++ (wA cyI z25 n26 f27 ++ wS cyI cyJ z h u))))))) (cells + 3) (slots + 18) 362 [(0, .ref sc.1), (1, .ref g), (2, .ref z), (3, .int l3), (5, .int l5), (6, .ref z14), (7, .ref z18), (8, .ref z22), (9, .ref z25), (10, .int l10), (11, .int l11), (12, .int l12)] []) hf (fun hf => ?_) (fun K115 hK115 hf => ?_)
                      · refine g_aload_n C dL_law_362 363 rfl 1 rfl ?_
                        refine g_iload C dL_law_363 365 rfl 11 rfl ?_
                        obtain ⟨x116, e117, hf⟩ := bz1_s hf
                        refine g_callV1 C (m_X1_hiddenOf_r hfl (g := g) (h1 := h1) (h2 := h2) e117) cf_X1_hiddenOf gL_law_X1_hiddenOf ⟨Nat.le_of_ble_eq_true rfl, Nat.le_of_ble_eq_true rfl⟩ (q0 := 0) (As := [.int l12]) (rest := []) (wl := []) (wr := wA cyI z14 n15 f16_77 ++ (wA cyI z18 n19 f20_82 ++ (wA cyI z22 5 f23_94 ++ (wA cyI z25 n26 f27 ++ wS cyI cyJ z h u)))) (c2 := cells + 4) (s2 := slots + 24) rfl rfl rfl rfl rfl rfl (Nat.le_of_ble_eq_true rfl) rfl rfl ⟨(by show _ ≤ 600104; omega), (by show _ ≤ 7301314; omega)⟩ dL_law_365 368 rfl (ws2 := wC g h1 h2 ++ (wB cyI h1 b1 ++ (wB cyI h2 b2 ++ (wA cyI z14 n15 f16_77 ++ (wA cyI z18 n19 f20_82 ++ (wA cyI z22 5 f23_94 ++ (wA cyI z25 n26 f27 ++ wS cyI cyJ z h u))))))) rfl (st2 := [.int x116]) rfl ?_
                        refine g_if_lt C dL_law_368 399 371 (by decide) rfl (fun c119 => ?_) (fun c119 => ?_)
                        · have hf := ifp c119 hf
                          refine g_iconst C dL_law_399 400 rfl ic_0 ?_
                          exact absurd (Option.some.inj hf) (by decide)
                        · have hf := ifn c119 hf
                          refine g_aload_n C dL_law_371 372 rfl 1 rfl ?_
                          refine g_iload C dL_law_372 374 rfl 11 rfl ?_
                          obtain ⟨x120, e121, hf⟩ := bz1_s hf
                          refine g_callV1 C (m_X1_hiddenOf_r hfl (g := g) (h1 := h1) (h2 := h2) e121) cf_X1_hiddenOf gL_law_X1_hiddenOf ⟨Nat.le_of_ble_eq_true rfl, Nat.le_of_ble_eq_true rfl⟩ (q0 := 0) (As := [.int l12]) (rest := []) (wl := []) (wr := wA cyI z14 n15 f16_77 ++ (wA cyI z18 n19 f20_82 ++ (wA cyI z22 5 f23_94 ++ (wA cyI z25 n26 f27 ++ wS cyI cyJ z h u)))) (c2 := cells + 5) (s2 := slots + 30) rfl rfl rfl rfl rfl rfl (Nat.le_of_ble_eq_true rfl) rfl rfl ⟨(by show _ ≤ 600104; omega), (by show _ ≤ 7301314; omega)⟩ dL_law_374 377 rfl (ws2 := wC g h1 h2 ++ (wB cyI h1 b1 ++ (wB cyI h2 b2 ++ (wA cyI z14 n15 f16_77 ++ (wA cyI z18 n19 f20_82 ++ (wA cyI z22 5 f23_94 ++ (wA cyI z25 n26 f27 ++ wS cyI cyJ z h u))))))) rfl (st2 := [.int x120]) rfl ?_
                          refine g_bipush C dL_law_377 379 rfl bp_9 ?_
                          refine g_icmp_gt C dL_law_379 399 382 (by decide) rfl (fun c123 => ?_) (fun c123 => ?_)
                          · have hf := ifp c123 hf
                            refine g_iconst C dL_law_399 400 rfl ic_0 ?_
                            exact absurd (Option.some.inj hf) (by decide)
                          · have hf := ifn c123 hf
                            refine g_aload_n C dL_law_382 383 rfl 1 rfl ?_
                            refine g_iload C dL_law_383 385 rfl 11 rfl ?_
                            obtain ⟨x124, e125, hf⟩ := bz1_s hf
                            refine g_callV1 C (m_X1_searchTime_r hfl (g := g) (h1 := h1) (h2 := h2) e125) cf_X1_searchTime gL_law_X1_searchTime ⟨Nat.le_of_ble_eq_true rfl, Nat.le_of_ble_eq_true rfl⟩ (q0 := 0) (As := [.int l12]) (rest := []) (wl := []) (wr := wA cyI z14 n15 f16_77 ++ (wA cyI z18 n19 f20_82 ++ (wA cyI z22 5 f23_94 ++ (wA cyI z25 n26 f27 ++ wS cyI cyJ z h u)))) (c2 := cells + 6) (s2 := slots + 36) rfl rfl rfl rfl rfl rfl (Nat.le_of_ble_eq_true rfl) rfl rfl ⟨(by show _ ≤ 600104; omega), (by show _ ≤ 7301314; omega)⟩ dL_law_385 388 rfl (ws2 := wC g h1 h2 ++ (wB cyI h1 b1 ++ (wB cyI h2 b2 ++ (wA cyI z14 n15 f16_77 ++ (wA cyI z18 n19 f20_82 ++ (wA cyI z22 5 f23_94 ++ (wA cyI z25 n26 f27 ++ wS cyI cyJ z h u))))))) rfl (st2 := [.int x124]) rfl ?_
                            refine g_iconst C dL_law_388 389 rfl ic_2 ?_
                            refine g_aload_n C dL_law_389 390 rfl 1 rfl ?_
                            obtain ⟨x127, e128, hf⟩ := bd1_s hf
                            refine g_callV1 C (m_X1_noise hfl (g := g) (h1 := h1) (h2 := h2) e128) cf_X1_noise gL_law_X1_noise ⟨Nat.le_of_ble_eq_true rfl, Nat.le_of_ble_eq_true rfl⟩ (q0 := 0) (As := []) (rest := [.int 2, .int x124]) (wl := []) (wr := wA cyI z14 n15 f16_77 ++ (wA cyI z18 n19 f20_82 ++ (wA cyI z22 5 f23_94 ++ (wA cyI z25 n26 f27 ++ wS cyI cyJ z h u)))) (c2 := cells + 6) (s2 := slots + 36) rfl rfl rfl rfl rfl rfl (Nat.le_of_ble_eq_true rfl) rfl rfl ⟨(by show _ ≤ 600104; omega), (by show _ ≤ 7301314; omega)⟩ dL_law_390 393 rfl (ws2 := wC g h1 h2 ++ (wB cyI h1 b1 ++ (wB cyI h2 b2 ++ (wA cyI z14 n15 f16_77 ++ (wA cyI z18 n19 f20_82 ++ (wA cyI z22 5 f23_94 ++ (wA cyI z25 n26 f27 ++ wS cyI cyJ z h u))))))) rfl (st2 := [.int x127, .int 2, .int x124]) rfl ?_
                            refine g_iconst C dL_law_393 394 rfl ic_4 ?_
                            refine g_idiv C (by decide) dL_law_394 395 rfl ?_
                            refine g_iadd C dL_law_395 396 rfl ?_
                            refine g_icmp_ge C dL_law_396 401 399 (by decide) rfl (fun c129 => ?_) (fun c129 => ?_)
                            · have hf := ifp c129 hf
                              refine g_iload C dL_law_401 403 rfl 10 rfl ?_
                              refine g_aload C dL_law_403 405 rfl 5 rfl ?_
                              refine g_iload C dL_law_405 407 rfl 11 rfl ?_
                              obtain ⟨x131, e130, hf⟩ := bd1_s hf
                              refine g_iald C 23 0 rfl rfl e130 dL_law_407 408 rfl ?_
                              refine jo1_s (P := fun (j133 : Int32) => Gq p l e room_1 s m args below meth c D A 22 Q (wC g h1 h2 ++ (wB cyI h1 b1 ++ (wB cyI h2 b2 ++ (wA cyI z14 n15 f16_77 ++ (wA cyI z18 n19 f20_82 ++ (wA cyI z22 5 f23_94 ++ (wA cyI z25 n26 f27 ++ wS cyI cyJ z h u))))))) (cells + 6) (slots + 36) 416 [(0, .ref sc.1), (1, .ref g), (2, .ref z), (3, .int l3), (5, .int l5), (6, .ref z14), (7, .ref z18), (8, .ref z22), (9, .ref z25), (10, .int l10), (12, .int l12)] [.int j133, .int l11]) hf (fun j133 hf => ?_) (fun K132 hK132 hf => ?_)
                              · refine g_iadd C dL_law_416 417 rfl ?_
                                refine g_istore C dL_law_417 419 rfl (by decide) (lv' := [(11, .int (l11 + j133)), (0, .ref sc.1), (1, .ref g), (2, .ref z), (3, .int l3), (5, .int l5), (6, .ref z14), (7, .ref z18), (8, .ref z22), (9, .ref z25), (10, .int l10), (12, .int l12)]) rfl ?_
                                refine g_iload C dL_law_419 421 rfl 10 rfl ?_
                                refine g_aload C dL_law_421 423 rfl 6 rfl ?_
                                refine g_iload C dL_law_423 425 rfl 11 rfl ?_
                                obtain ⟨x135, e134, hf⟩ := bd1_s hf
                                refine g_iald C 23 0 rfl rfl e134 dL_law_425 426 rfl ?_
                                refine g_iconst C dL_law_426 427 rfl ic_2 ?_
                                refine g_icmp_ne C dL_law_427 442 430 (by decide) rfl (fun c136 => ?_) (fun c136 => ?_)
                                · have hf := ifn c136 hf
                                  refine g_iconst C dL_law_442 443 rfl ic_0 ?_
                                  refine g_iadd C dL_law_443 444 rfl ?_
                                  refine g_istore C dL_law_444 446 rfl (by decide) (lv' := [(10, .int (l10 + 0)), (11, .int (l11 + j133)), (0, .ref sc.1), (1, .ref g), (2, .ref z), (3, .int l3), (5, .int l5), (6, .ref z14), (7, .ref z18), (8, .ref z22), (9, .ref z25), (12, .int l12)]) rfl ?_
                                  refine g_iinc C dL_law_446 449 rfl 11 rfl (ii_1 _) (by decide) (lv' := [(12, .int (l12 + 1)), (10, .int (l10 + 0)), (11, .int (l11 + j133)), (0, .ref sc.1), (1, .ref g), (2, .ref z), (3, .int l3), (5, .int l5), (6, .ref z14), (7, .ref z18), (8, .ref z22), (9, .ref z25)]) rfl ?_
                                  refine g_goto C dL_law_449 216 (by decide) ?_
                                  refine g_lv [3, 4, 5, 6, 7, 8, 9, 10, 11, 1, 2, 0] (lv' := [(0, .ref sc.1), (1, .ref g), (2, .ref z), (3, .int l3), (5, .int l5), (6, .ref z14), (7, .ref z18), (8, .ref z22), (9, .ref z25), (10, .int (l10 + 0)), (11, .int (l11 + j133)), (12, .int (l12 + 1))]) rfl ?_
                                  exact ih (l10 + 0) (l11 + j133) (l12 + 1) f16_77 f20_82 f23_94 (cells + 6) (slots + 36) (by omega) (by omega) hf
                                · have hf := ifp c136 hf
                                  refine g_aload_n C dL_law_430 431 rfl 3 rfl ?_
                                  refine g_get C iX2 27 rfl rfl 4 (by decide) kw1 rfl rfl dL_law_431 434 rfl ?_
                                  refine g_iload C dL_law_434 436 rfl 11 rfl ?_
                                  obtain ⟨_, e137, hf⟩ := bd1_s hf
                                  refine g_aaT C (wl := wC g h1 h2 ++ (wB cyI h1 b1 ++ (wB cyI h2 b2 ++ (wA cyI z14 n15 f16_77 ++ (wA cyI z18 n19 f20_82 ++ (wA cyI z22 5 f23_94 ++ wA cyI z25 n26 f27)))))) (cyI := cyI) 2 rfl rfl e137 dL_law_436 437 rfl ?_
                                  refine g_iconst C dL_law_437 438 rfl ic_2 ?_
                                  obtain ⟨x139, e138, hf⟩ := bd1_s hf
                                  refine g_rldT C (wl := wC g h1 h2 ++ (wB cyI h1 b1 ++ (wB cyI h2 b2 ++ (wA cyI z14 n15 f16_77 ++ (wA cyI z18 n19 f20_82 ++ (wA cyI z22 5 f23_94 ++ wA cyI z25 n26 f27)))))) (cyJ := cyJ) 2 0 rfl rfl ⟨by decide, by unfold vp_in; decide⟩ e138 dL_law_438 439 rfl ?_
                                  refine g_goto C dL_law_439 443 (by decide) ?_
                                  refine g_iadd C dL_law_443 444 rfl ?_
                                  refine g_istore C dL_law_444 446 rfl (by decide) (lv' := [(10, .int (l10 + x139)), (11, .int (l11 + j133)), (0, .ref sc.1), (1, .ref g), (2, .ref z), (3, .int l3), (5, .int l5), (6, .ref z14), (7, .ref z18), (8, .ref z22), (9, .ref z25), (12, .int l12)]) rfl ?_
                                  refine g_iinc C dL_law_446 449 rfl 11 rfl (ii_1 _) (by decide) (lv' := [(12, .int (l12 + 1)), (10, .int (l10 + x139)), (11, .int (l11 + j133)), (0, .ref sc.1), (1, .ref g), (2, .ref z), (3, .int l3), (5, .int l5), (6, .ref z14), (7, .ref z18), (8, .ref z22), (9, .ref z25)]) rfl ?_
                                  refine g_goto C dL_law_449 216 (by decide) ?_
                                  refine g_lv [3, 4, 5, 6, 7, 8, 9, 10, 11, 1, 2, 0] (lv' := [(0, .ref sc.1), (1, .ref g), (2, .ref z), (3, .int l3), (5, .int l5), (6, .ref z14), (7, .ref z18), (8, .ref z22), (9, .ref z25), (10, .int (l10 + x139)), (11, .int (l11 + j133)), (12, .int (l12 + 1))]) rfl ?_
                                  exact ih (l10 + x139) (l11 + j133) (l12 + 1) f16_77 f20_82 f23_94 (cells + 6) (slots + 36) (by omega) (by omega) hf
                              · refine g_if_ne C dL_law_408 415 411 (by decide) rfl (fun c140 => ?_) (fun c140 => ?_)
                                · have hf := ifn c140 hf
                                  refine g_iconst C dL_law_415 416 rfl ic_0 ?_
                                  refine g_lv [0, 1, 2, 3, 4, 5, 6, 7, 8, 9, 11] (lv' := [(0, .ref sc.1), (1, .ref g), (2, .ref z), (3, .int l3), (5, .int l5), (6, .ref z14), (7, .ref z18), (8, .ref z22), (9, .ref z25), (10, .int l10), (12, .int l12)]) rfl ?_
                                  exact hK132 0 hf
                                · have hf := ifp c140 hf
                                  refine g_iconst C dL_law_411 412 rfl ic_1 ?_
                                  refine g_goto C dL_law_412 416 (by decide) ?_
                                  refine g_lv [0, 1, 2, 3, 4, 5, 6, 7, 8, 9, 11] (lv' := [(0, .ref sc.1), (1, .ref g), (2, .ref z), (3, .int l3), (5, .int l5), (6, .ref z14), (7, .ref z18), (8, .ref z22), (9, .ref z25), (10, .int l10), (12, .int l12)]) rfl ?_
                                  exact hK132 1 hf
                            · have hf := ifn c129 hf
                              refine g_iconst C dL_law_399 400 rfl ic_0 ?_
                              exact absurd (Option.some.inj hf) (by decide)
                      · refine g_if_ne C dL_law_350 362 353 (by decide) rfl (fun c141 => ?_) (fun c141 => ?_)
                        · have hf := ifn c141 hf
                          exact hK115 hf
                        · have hf := ifp c141 hf
                          refine g_aload C dL_law_353 355 rfl 6 rfl ?_
                          refine g_iload C dL_law_355 357 rfl 11 rfl ?_
                          obtain ⟨x143, e142, hf⟩ := bd1_s hf
                          refine g_iald C 24 0 rfl rfl e142 dL_law_357 358 rfl ?_
                          refine g_iconst C dL_law_358 359 rfl ic_1 ?_
                          refine g_icmp_lt C dL_law_359 399 362 (by decide) rfl (fun c144 => ?_) (fun c144 => ?_)
                          · have hf := ifp c144 hf
                            refine g_iconst C dL_law_399 400 rfl ic_0 ?_
                            exact absurd (Option.some.inj hf) (by decide)
                          · have hf := ifn c144 hf
                            exact hK115 hf
                  · refine g_if_ne C dL_law_333 341 336 (by decide) rfl (fun c145 => ?_) (fun c145 => ?_)
                    · have hf := ifn c145 hf
                      refine g_iconst C dL_law_341 342 rfl ic_m1 ?_
                      exact hK110 (-1) hf
                    · have hf := ifp c145 hf
                      refine g_iload C dL_law_336 338 rfl 10 rfl ?_
                      refine g_goto C dL_law_338 342 (by decide) ?_
                      exact hK110 l11 hf
              · refine g_icmp_ne C dL_law_311 318 314 (by decide) rfl (fun c146 => ?_) (fun c146 => ?_)
                · have hf := ifn c146 hf
                  refine g_iconst C dL_law_318 319 rfl ic_0 ?_
                  exact hK102 0 hf
                · have hf := ifp c146 hf
                  refine g_iconst C dL_law_314 315 rfl ic_1 ?_
                  refine g_goto C dL_law_315 319 (by decide) ?_
                  exact hK102 1 hf
            · refine g_if_ne C dL_law_281 300 284 (by decide) rfl (fun c147 => ?_) (fun c147 => ?_)
              · have hf := ifn c147 hf
                exact hK97 hf
              · have hf := ifp c147 hf
                refine g_iload C dL_law_284 286 rfl 10 rfl ?_
                refine g_if_ne C dL_law_286 300 289 (by decide) rfl (fun c148 => ?_) (fun c148 => ?_)
                · have hf := ifn c148 hf
                  exact hK97 hf
                · have hf := ifp c148 hf
                  refine g_aload_n C dL_law_289 290 rfl 1 rfl ?_
                  obtain ⟨x149, e150, hf⟩ := bd1_s hf
                  refine g_callV1 C (m_X1_nextInLine hfl (g := g) (h1 := h1) (h2 := h2) e150) cf_X1_nextInLine gL_law_X1_nextInLine ⟨Nat.le_of_ble_eq_true rfl, Nat.le_of_ble_eq_true rfl⟩ (q0 := 0) (As := []) (rest := []) (wl := []) (wr := wA cyI z14 n15 f16_77 ++ (wA cyI z18 n19 f20_82 ++ (wA cyI z22 5 f23_94 ++ (wA cyI z25 n26 f27 ++ wS cyI cyJ z h u)))) (c2 := cells + 2) (s2 := slots + 12) rfl rfl rfl rfl rfl rfl (Nat.le_of_ble_eq_true rfl) rfl rfl ⟨(by show _ ≤ 600104; omega), (by show _ ≤ 7301314; omega)⟩ dL_law_290 293 rfl (ws2 := wC g h1 h2 ++ (wB cyI h1 b1 ++ (wB cyI h2 b2 ++ (wA cyI z14 n15 f16_77 ++ (wA cyI z18 n19 f20_82 ++ (wA cyI z22 5 f23_94 ++ (wA cyI z25 n26 f27 ++ wS cyI cyJ z h u))))))) rfl (st2 := [.int x149]) rfl ?_
                  refine g_iload C dL_law_293 295 rfl 11 rfl ?_
                  refine g_icmp_eq C dL_law_295 300 298 (by decide) rfl (fun c151 => ?_) (fun c151 => ?_)
                  · have hf := ifp c151 hf
                    exact hK97 hf
                  · have hf := ifn c151 hf
                    refine g_iconst C dL_law_298 299 rfl ic_0 ?_
                    exact absurd (Option.some.inj hf) (by decide)
          · have hf := ifn c88 hf
            refine g_iconst C dL_law_262 263 rfl ic_0 ?_
            exact absurd (Option.some.inj hf) (by decide)
  have L575 : ∀ {b1 u : S2} (n15 : Nat) (n19 : Nat) (n26 : Nat) (l3 : Int32) (l5 : Int32) (l12 : Int32) (l13 : Int32) (l14 : Int32) (l15 : Int32) (f16 : Nat → Int32) (f20 : Nat → Int32) (f23 : Nat → Int32) (f27 : Nat → Int32) (h : Nat → Nat → Nat) (z14 : Nat) (z18 : Nat) (z22 : Nat) (z25 : Nat) (ct st : Nat) (hc1 : ct ≤ 600104) (hc2 : st ≤ 7301314) (K : Int32 → Int32 → Int32 → Option Int32) (hK : ∀ (l16 : Int32) (l17 : Int32) (l18 : Int32), K l16 l17 l18 = some 1 → Gq p l e room_1 s m args below meth c D A 22 Q (wC g h1 h2 ++ (wB cyI h1 b1 ++ (wB cyI h2 b2 ++ (wA cyI z14 n15 f16 ++ (wA cyI z18 n19 f20 ++ (wA cyI z22 5 f23 ++ (wA cyI z25 n26 f27 ++ wS cyI cyJ z h u))))))) ct st 854 [(0, .ref sc.1), (1, .ref g), (2, .ref z), (3, .int l3), (12, .int l12), (13, .int l13), (14, .int l14), (15, .int l15), (16, .int l16), (17, .int l17), (18, .int l18)] []) (n : Nat) (l16 : Int32) (l17 : Int32) (l18 : Int32) (l19 : Int32) (cells slots : Nat), cells + n * 4 + 4 ≤ ct → slots + n * 24 + 24 ≤ st → L_law_L575 K sc n15 n19 n26 l3 l5 l12 l13 l14 l15 b1 b2 u f16 f20 f23 f27 n l16 l17 l18 l19 = some 1 → Gq p l e room_1 s m args below meth c D A 22 Q (wC g h1 h2 ++ (wB cyI h1 b1 ++ (wB cyI h2 b2 ++ (wA cyI z14 n15 f16 ++ (wA cyI z18 n19 f20 ++ (wA cyI z22 5 f23 ++ (wA cyI z25 n26 f27 ++ wS cyI cyJ z h u))))))) cells slots 575 [(0, .ref sc.1), (1, .ref g), (2, .ref z), (3, .int l3), (5, .int l5), (6, .ref z14), (7, .ref z18), (12, .int l12), (13, .int l13), (14, .int l14), (15, .int l15), (16, .int l16), (17, .int l17), (18, .int l18), (19, .int l19)] [] := by
    intro b1 u n15 n19 n26 l3 l5 l12 l13 l14 l15 f16 f20 f23 f27 h z14 z18 z22 z25 ct st hc1 hc2 K hK n
    induction n with
    | zero => intro l16 l17 l18 l19 cells slots hd1 hd2 hf; simp [L_law_L575] at hf
    | succ n ih =>
      intro l16 l17 l18 l19 cells slots hd1 hd2 hf
      rw [L_law_L575] at hf
      refine g_iload C dL_law_575 577 rfl 14 rfl ?_
      refine g_iload C dL_law_577 579 rfl 4 rfl ?_
      refine g_icmp_ge C dL_law_579 854 582 (by decide) rfl (fun c200 => ?_) (fun c200 => ?_)
      · have hf := ifp c200 hf
        refine g_lv [0, 1, 2, 3, 7, 8, 9, 10, 11, 12, 13] (lv' := [(0, .ref sc.1), (1, .ref g), (2, .ref z), (3, .int l3), (12, .int l12), (13, .int l13), (14, .int l14), (15, .int l15), (16, .int l16), (17, .int l17), (18, .int l18)]) rfl ?_
        refine g_wide (c2 := ct) (s2 := st) (by omega) (by omega) ?_
        exact hK l16 l17 l18 hf
      · have hf := ifn c200 hf
        refine g_aload_n C dL_law_582 583 rfl 1 rfl ?_
        refine g_iload C dL_law_583 585 rfl 14 rfl ?_
        obtain ⟨x201, e202, hf⟩ := bz1_s hf
        refine g_callV1 C (m_X1_stateOf_r hfl (g := g) (h1 := h1) (h2 := h2) e202) cf_X1_stateOf gL_law_X1_stateOf ⟨Nat.le_of_ble_eq_true rfl, Nat.le_of_ble_eq_true rfl⟩ (q0 := 0) (As := [.int l19]) (rest := []) (wl := []) (wr := wA cyI z14 n15 f16 ++ (wA cyI z18 n19 f20 ++ (wA cyI z22 5 f23 ++ (wA cyI z25 n26 f27 ++ wS cyI cyJ z h u)))) (c2 := cells + 1) (s2 := slots + 6) rfl rfl rfl rfl rfl rfl (Nat.le_of_ble_eq_true rfl) rfl rfl ⟨(by show _ ≤ 600104; omega), (by show _ ≤ 7301314; omega)⟩ dL_law_585 588 rfl (ws2 := wC g h1 h2 ++ (wB cyI h1 b1 ++ (wB cyI h2 b2 ++ (wA cyI z14 n15 f16 ++ (wA cyI z18 n19 f20 ++ (wA cyI z22 5 f23 ++ (wA cyI z25 n26 f27 ++ wS cyI cyJ z h u))))))) rfl (st2 := [.int x201]) rfl ?_
        refine g_istore C dL_law_588 590 rfl (by decide) (lv' := [(20, .int x201), (0, .ref sc.1), (1, .ref g), (2, .ref z), (3, .int l3), (5, .int l5), (6, .ref z14), (7, .ref z18), (12, .int l12), (13, .int l13), (14, .int l14), (15, .int l15), (16, .int l16), (17, .int l17), (18, .int l18), (19, .int l19)]) rfl ?_
        refine g_iload C dL_law_590 592 rfl 0 rfl ?_
        refine g_aload C dL_law_592 594 rfl 6 rfl ?_
        refine g_iload C dL_law_594 596 rfl 15 rfl ?_
        obtain ⟨x205, e204, hf⟩ := bd1_s hf
        refine g_iald C 23 0 rfl rfl e204 dL_law_596 597 rfl ?_
        refine jo1_s (P := fun (j207 : Int32) => Gq p l e room_1 s m args below meth c D A 22 Q (wC g h1 h2 ++ (wB cyI h1 b1 ++ (wB cyI h2 b2 ++ (wA cyI z14 n15 f16 ++ (wA cyI z18 n19 f20 ++ (wA cyI z22 5 f23 ++ (wA cyI z25 n26 f27 ++ wS cyI cyJ z h u))))))) (cells + 1) (slots + 6) 661 [(0, .ref sc.1), (1, .ref g), (2, .ref z), (3, .int l3), (5, .int l5), (6, .ref z14), (7, .ref z18), (12, .int l12), (13, .int l13), (14, .int l14), (15, .int l15), (16, .int l16), (17, .int l17), (18, .int l18), (19, .int l19), (20, .int x201)] [.int j207]) hf (fun j207 hf => ?_) (fun K206 hK206 hf => ?_)
        · refine g_istore C dL_law_661 663 rfl (by decide) (lv' := [(21, .int j207), (0, .ref sc.1), (1, .ref g), (2, .ref z), (3, .int l3), (5, .int l5), (6, .ref z14), (7, .ref z18), (12, .int l12), (13, .int l13), (14, .int l14), (15, .int l15), (16, .int l16), (17, .int l17), (18, .int l18), (19, .int l19), (20, .int x201)]) rfl ?_
          refine g_iload C dL_law_663 665 rfl 0 rfl ?_
          refine g_if_eq C dL_law_665 700 668 (by decide) rfl (fun c208 => ?_) (fun c208 => ?_)
          · have hf := ifp c208 hf
            refine g_iconst C dL_law_700 701 rfl ic_0 ?_
            exact absurd (Option.some.inj hf) (by decide)
          · have hf := ifn c208 hf
            refine g_aload_n C dL_law_668 669 rfl 2 rfl ?_
            refine g_iload C dL_law_669 671 rfl 15 rfl ?_
            obtain ⟨x209, e210, hf⟩ := bz1_s hf
            refine g_callV1 C (m_X1_lullabyOf_r hfl (g := g) (h1 := h1) (h2 := h2) e210) cf_X1_lullabyOf gL_law_X1_lullabyOf ⟨Nat.le_of_ble_eq_true rfl, Nat.le_of_ble_eq_true rfl⟩ (q0 := 0) (As := [.int l19]) (rest := []) (wl := []) (wr := wA cyI z14 n15 f16 ++ (wA cyI z18 n19 f20 ++ (wA cyI z22 5 f23 ++ (wA cyI z25 n26 f27 ++ wS cyI cyJ z h u)))) (c2 := cells + 2) (s2 := slots + 12) rfl rfl rfl rfl rfl rfl (Nat.le_of_ble_eq_true rfl) rfl rfl ⟨(by show _ ≤ 600104; omega), (by show _ ≤ 7301314; omega)⟩ dL_law_671 674 rfl (ws2 := wC g h1 h2 ++ (wB cyI h1 b1 ++ (wB cyI h2 b2 ++ (wA cyI z14 n15 f16 ++ (wA cyI z18 n19 f20 ++ (wA cyI z22 5 f23 ++ (wA cyI z25 n26 f27 ++ wS cyI cyJ z h u))))))) rfl (st2 := [.int x209]) rfl ?_
            refine g_aload C dL_law_674 676 rfl 6 rfl ?_
            refine g_iload C dL_law_676 678 rfl 15 rfl ?_
            obtain ⟨x213, e212, hf⟩ := bd1_s hf
            refine g_iald C 23 0 rfl rfl e212 dL_law_678 679 rfl ?_
            refine jo1_s (P := fun (j215 : Int32) => Gq p l e room_1 s m args below meth c D A 22 Q (wC g h1 h2 ++ (wB cyI h1 b1 ++ (wB cyI h2 b2 ++ (wA cyI z14 n15 f16 ++ (wA cyI z18 n19 f20 ++ (wA cyI z22 5 f23 ++ (wA cyI z25 n26 f27 ++ wS cyI cyJ z h u))))))) (cells + 2) (slots + 12) 697 [(0, .ref sc.1), (1, .ref g), (2, .ref z), (3, .int l3), (5, .int l5), (6, .ref z14), (7, .ref z18), (12, .int l12), (13, .int l13), (14, .int l14), (15, .int l15), (16, .int l16), (17, .int l17), (18, .int l18), (19, .int l19), (20, .int x201)] [.int j215, .int x209]) hf (fun j215 hf => ?_) (fun K214 hK214 hf => ?_)
            · refine g_icmp_eq C dL_law_697 702 700 (by decide) rfl (fun c216 => ?_) (fun c216 => ?_)
              · have hf := ifp c216 hf
                refine g_iload C dL_law_702 704 rfl 11 rfl ?_
                refine g_aload C dL_law_704 706 rfl 5 rfl ?_
                refine g_iload C dL_law_706 708 rfl 14 rfl ?_
                obtain ⟨x218, e217, hf⟩ := bd1_s hf
                refine g_iald C 23 0 rfl rfl e217 dL_law_708 709 rfl ?_
                refine g_iconst C dL_law_709 710 rfl ic_2 ?_
                refine jo1_s (P := fun (j220 : Int32) => Gq p l e room_1 s m args below meth c D A 22 Q (wC g h1 h2 ++ (wB cyI h1 b1 ++ (wB cyI h2 b2 ++ (wA cyI z14 n15 f16 ++ (wA cyI z18 n19 f20 ++ (wA cyI z22 5 f23 ++ (wA cyI z25 n26 f27 ++ wS cyI cyJ z h u))))))) (cells + 2) (slots + 12) 724 [(0, .ref sc.1), (1, .ref g), (2, .ref z), (3, .int l3), (5, .int l5), (6, .ref z14), (7, .ref z18), (12, .int l12), (13, .int l13), (14, .int l14), (15, .int l15), (17, .int l17), (18, .int l18), (19, .int l19), (20, .int x201)] [.int j220, .int l16]) hf (fun j220 hf => ?_) (fun K219 hK219 hf => ?_)
                · refine g_iadd C dL_law_724 725 rfl ?_
                  refine g_istore C dL_law_725 727 rfl (by decide) (lv' := [(16, .int (l16 + j220)), (0, .ref sc.1), (1, .ref g), (2, .ref z), (3, .int l3), (5, .int l5), (6, .ref z14), (7, .ref z18), (12, .int l12), (13, .int l13), (14, .int l14), (15, .int l15), (17, .int l17), (18, .int l18), (19, .int l19), (20, .int x201)]) rfl ?_
                  refine g_iload C dL_law_727 729 rfl 12 rfl ?_
                  refine g_aload C dL_law_729 731 rfl 6 rfl ?_
                  refine g_iload C dL_law_731 733 rfl 14 rfl ?_
                  obtain ⟨x222, e221, hf⟩ := bd1_s hf
                  refine g_iald C 23 0 rfl rfl e221 dL_law_733 734 rfl ?_
                  refine jo1_s (P := fun (j224 : Int32) => Gq p l e room_1 s m args below meth c D A 22 Q (wC g h1 h2 ++ (wB cyI h1 b1 ++ (wB cyI h2 b2 ++ (wA cyI z14 n15 f16 ++ (wA cyI z18 n19 f20 ++ (wA cyI z22 5 f23 ++ (wA cyI z25 n26 f27 ++ wS cyI cyJ z h u))))))) (cells + 2) (slots + 12) 748 [(0, .ref sc.1), (1, .ref g), (2, .ref z), (3, .int l3), (5, .int l5), (6, .ref z14), (7, .ref z18), (12, .int l12), (13, .int l13), (14, .int l14), (15, .int l15), (16, .int (l16 + j220)), (18, .int l18), (19, .int l19), (20, .int x201)] [.int j224, .int l17]) hf (fun j224 hf => ?_) (fun K223 hK223 hf => ?_)
                  · refine g_iadd C dL_law_748 749 rfl ?_
                    refine g_istore C dL_law_749 751 rfl (by decide) (lv' := [(17, .int (l17 + j224)), (0, .ref sc.1), (1, .ref g), (2, .ref z), (3, .int l3), (5, .int l5), (6, .ref z14), (7, .ref z18), (12, .int l12), (13, .int l13), (14, .int l14), (15, .int l15), (16, .int (l16 + j220)), (18, .int l18), (19, .int l19), (20, .int x201)]) rfl ?_
                    refine g_iload C dL_law_751 753 rfl 13 rfl ?_
                    refine g_aload C dL_law_753 755 rfl 6 rfl ?_
                    refine g_iload C dL_law_755 757 rfl 14 rfl ?_
                    obtain ⟨x226, e225, hf⟩ := bd1_s hf
                    refine g_iald C 23 0 rfl rfl e225 dL_law_757 758 rfl ?_
                    refine g_iconst C dL_law_758 759 rfl ic_1 ?_
                    refine jo1_s (P := fun (j228 : Int32) => Gq p l e room_1 s m args below meth c D A 22 Q (wC g h1 h2 ++ (wB cyI h1 b1 ++ (wB cyI h2 b2 ++ (wA cyI z14 n15 f16 ++ (wA cyI z18 n19 f20 ++ (wA cyI z22 5 f23 ++ (wA cyI z25 n26 f27 ++ wS cyI cyJ z h u))))))) (cells + 3) (slots + 18) 780 [(0, .ref sc.1), (1, .ref g), (2, .ref z), (3, .int l3), (5, .int l5), (6, .ref z14), (7, .ref z18), (12, .int l12), (13, .int l13), (14, .int l14), (15, .int l15), (16, .int (l16 + j220)), (17, .int (l17 + j224)), (19, .int l19), (20, .int x201)] [.int j228, .int l18]) hf (fun j228 hf => ?_) (fun K227 hK227 hf => ?_)
                    · refine g_iadd C dL_law_780 781 rfl ?_
                      refine g_istore C dL_law_781 783 rfl (by decide) (lv' := [(18, .int (l18 + j228)), (0, .ref sc.1), (1, .ref g), (2, .ref z), (3, .int l3), (5, .int l5), (6, .ref z14), (7, .ref z18), (12, .int l12), (13, .int l13), (14, .int l14), (15, .int l15), (16, .int (l16 + j220)), (17, .int (l17 + j224)), (19, .int l19), (20, .int x201)]) rfl ?_
                      refine g_aload C dL_law_783 785 rfl 6 rfl ?_
                      refine g_iload C dL_law_785 787 rfl 14 rfl ?_
                      obtain ⟨x230, e229, hf⟩ := bd1_s hf
                      refine g_iald C 23 0 rfl rfl e229 dL_law_787 788 rfl ?_
                      refine jo0_s (P := Gq p l e room_1 s m args below meth c D A 22 Q (wC g h1 h2 ++ (wB cyI h1 b1 ++ (wB cyI h2 b2 ++ (wA cyI z14 n15 f16 ++ (wA cyI z18 n19 f20 ++ (wA cyI z22 5 f23 ++ (wA cyI z25 n26 f27 ++ wS cyI cyJ z h u))))))) (cells + 3) (slots + 18) 821 [(0, .ref sc.1), (1, .ref g), (2, .ref z), (3, .int l3), (5, .int l5), (6, .ref z14), (7, .ref z18), (12, .int l12), (13, .int l13), (14, .int l14), (15, .int l15), (16, .int (l16 + j220)), (17, .int (l17 + j224)), (18, .int (l18 + j228)), (19, .int l19), (20, .int x201)] []) hf (fun hf => ?_) (fun K231 hK231 hf => ?_)
                      · refine g_aload C dL_law_821 823 rfl 5 rfl ?_
                        refine g_iload C dL_law_823 825 rfl 14 rfl ?_
                        obtain ⟨x233, e232, hf⟩ := bd1_s hf
                        refine g_iald C 23 0 rfl rfl e232 dL_law_825 826 rfl ?_
                        refine g_iconst C dL_law_826 827 rfl ic_1 ?_
                        refine g_icmp_ne C dL_law_827 848 830 (by decide) rfl (fun c234 => ?_) (fun c234 => ?_)
                        · have hf := ifn c234 hf
                          refine g_iinc C dL_law_848 851 rfl 14 rfl (ii_1 _) (by decide) (lv' := [(19, .int (l19 + 1)), (0, .ref sc.1), (1, .ref g), (2, .ref z), (3, .int l3), (5, .int l5), (6, .ref z14), (7, .ref z18), (12, .int l12), (13, .int l13), (14, .int l14), (15, .int l15), (16, .int (l16 + j220)), (17, .int (l17 + j224)), (18, .int (l18 + j228)), (20, .int x201)]) rfl ?_
                          refine g_goto C dL_law_851 575 (by decide) ?_
                          refine g_lv [1, 2, 3, 4, 5, 6, 7, 8, 9, 10, 11, 12, 13, 14, 0] (lv' := [(0, .ref sc.1), (1, .ref g), (2, .ref z), (3, .int l3), (5, .int l5), (6, .ref z14), (7, .ref z18), (12, .int l12), (13, .int l13), (14, .int l14), (15, .int l15), (16, .int (l16 + j220)), (17, .int (l17 + j224)), (18, .int (l18 + j228)), (19, .int (l19 + 1))]) rfl ?_
                          exact ih (l16 + j220) (l17 + j224) (l18 + j228) (l19 + 1) (cells + 3) (slots + 18) (by omega) (by omega) hf
                        · have hf := ifp c234 hf
                          refine g_iload C dL_law_830 832 rfl 15 rfl ?_
                          refine g_iconst C dL_law_832 833 rfl ic_4 ?_
                          refine g_icmp_ne C dL_law_833 848 836 (by decide) rfl (fun c235 => ?_) (fun c235 => ?_)
                          · have hf := ifn c235 hf
                            refine g_iinc C dL_law_848 851 rfl 14 rfl (ii_1 _) (by decide) (lv' := [(19, .int (l19 + 1)), (0, .ref sc.1), (1, .ref g), (2, .ref z), (3, .int l3), (5, .int l5), (6, .ref z14), (7, .ref z18), (12, .int l12), (13, .int l13), (14, .int l14), (15, .int l15), (16, .int (l16 + j220)), (17, .int (l17 + j224)), (18, .int (l18 + j228)), (20, .int x201)]) rfl ?_
                            refine g_goto C dL_law_851 575 (by decide) ?_
                            refine g_lv [1, 2, 3, 4, 5, 6, 7, 8, 9, 10, 11, 12, 13, 14, 0] (lv' := [(0, .ref sc.1), (1, .ref g), (2, .ref z), (3, .int l3), (5, .int l5), (6, .ref z14), (7, .ref z18), (12, .int l12), (13, .int l13), (14, .int l14), (15, .int l15), (16, .int (l16 + j220)), (17, .int (l17 + j224)), (18, .int (l18 + j228)), (19, .int (l19 + 1))]) rfl ?_
                            exact ih (l16 + j220) (l17 + j224) (l18 + j228) (l19 + 1) (cells + 3) (slots + 18) (by omega) (by omega) hf
                          · have hf := ifp c235 hf
                            refine g_aload_n C dL_law_836 837 rfl 1 rfl ?_
                            refine g_iload C dL_law_837 839 rfl 14 rfl ?_
                            obtain ⟨x236, e237, hf⟩ := bz1_s hf
                            refine g_callV1 C (m_X1_hiddenOf_r hfl (g := g) (h1 := h1) (h2 := h2) e237) cf_X1_hiddenOf gL_law_X1_hiddenOf ⟨Nat.le_of_ble_eq_true rfl, Nat.le_of_ble_eq_true rfl⟩ (q0 := 0) (As := [.int l19]) (rest := []) (wl := []) (wr := wA cyI z14 n15 f16 ++ (wA cyI z18 n19 f20 ++ (wA cyI z22 5 f23 ++ (wA cyI z25 n26 f27 ++ wS cyI cyJ z h u)))) (c2 := cells + 4) (s2 := slots + 24) rfl rfl rfl rfl rfl rfl (Nat.le_of_ble_eq_true rfl) rfl rfl ⟨(by show _ ≤ 600104; omega), (by show _ ≤ 7301314; omega)⟩ dL_law_839 842 rfl (ws2 := wC g h1 h2 ++ (wB cyI h1 b1 ++ (wB cyI h2 b2 ++ (wA cyI z14 n15 f16 ++ (wA cyI z18 n19 f20 ++ (wA cyI z22 5 f23 ++ (wA cyI z25 n26 f27 ++ wS cyI cyJ z h u))))))) rfl (st2 := [.int x236]) rfl ?_
                            refine g_iconst C dL_law_842 843 rfl ic_1 ?_
                            refine g_icmp_ge C dL_law_843 848 846 (by decide) rfl (fun c239 => ?_) (fun c239 => ?_)
                            · have hf := ifp c239 hf
                              refine g_iinc C dL_law_848 851 rfl 14 rfl (ii_1 _) (by decide) (lv' := [(19, .int (l19 + 1)), (0, .ref sc.1), (1, .ref g), (2, .ref z), (3, .int l3), (5, .int l5), (6, .ref z14), (7, .ref z18), (12, .int l12), (13, .int l13), (14, .int l14), (15, .int l15), (16, .int (l16 + j220)), (17, .int (l17 + j224)), (18, .int (l18 + j228)), (20, .int x201)]) rfl ?_
                              refine g_goto C dL_law_851 575 (by decide) ?_
                              refine g_lv [1, 2, 3, 4, 5, 6, 7, 8, 9, 10, 11, 12, 13, 14, 0] (lv' := [(0, .ref sc.1), (1, .ref g), (2, .ref z), (3, .int l3), (5, .int l5), (6, .ref z14), (7, .ref z18), (12, .int l12), (13, .int l13), (14, .int l14), (15, .int l15), (16, .int (l16 + j220)), (17, .int (l17 + j224)), (18, .int (l18 + j228)), (19, .int (l19 + 1))]) rfl ?_
                              exact ih (l16 + j220) (l17 + j224) (l18 + j228) (l19 + 1) (cells + 4) (slots + 24) (by omega) (by omega) hf
                            · have hf := ifn c239 hf
                              refine g_iconst C dL_law_846 847 rfl ic_0 ?_
                              exact absurd (Option.some.inj hf) (by decide)
                      · refine g_if_ne C dL_law_788 821 791 (by decide) rfl (fun c240 => ?_) (fun c240 => ?_)
                        · have hf := ifn c240 hf
                          refine g_lv [1, 2, 3, 4, 5, 6, 7, 8, 9, 10, 11, 12, 13, 0, 14, 15] (lv' := [(0, .ref sc.1), (1, .ref g), (2, .ref z), (3, .int l3), (5, .int l5), (6, .ref z14), (7, .ref z18), (12, .int l12), (13, .int l13), (14, .int l14), (15, .int l15), (16, .int (l16 + j220)), (17, .int (l17 + j224)), (18, .int (l18 + j228)), (19, .int l19), (20, .int x201)]) rfl ?_
                          exact hK231 hf
                        · have hf := ifp c240 hf
                          refine g_iload C dL_law_791 793 rfl 15 rfl ?_
                          refine g_iconst C dL_law_793 794 rfl ic_4 ?_
                          refine jo1_s (P := fun (j242 : Int32) => Gq p l e room_1 s m args below meth c D A 22 Q (wC g h1 h2 ++ (wB cyI h1 b1 ++ (wB cyI h2 b2 ++ (wA cyI z14 n15 f16 ++ (wA cyI z18 n19 f20 ++ (wA cyI z22 5 f23 ++ (wA cyI z25 n26 f27 ++ wS cyI cyJ z h u))))))) (cells + 3) (slots + 18) 802 [(0, .ref sc.1), (1, .ref g), (2, .ref z), (3, .int l3), (5, .int l5), (6, .ref z14), (7, .ref z18), (12, .int l12), (13, .int l13), (14, .int l14), (15, .int l15), (16, .int (l16 + j220)), (17, .int (l17 + j224)), (18, .int (l18 + j228)), (19, .int l19), (20, .int x201)] [.int j242]) hf (fun j242 hf => ?_) (fun K241 hK241 hf => ?_)
                          · refine g_aload C dL_law_802 804 rfl 6 rfl ?_
                            refine g_iload C dL_law_804 806 rfl 14 rfl ?_
                            obtain ⟨x244, e243, hf⟩ := bd1_s hf
                            refine g_iald C 24 0 rfl rfl e243 dL_law_806 807 rfl ?_
                            refine g_iconst C dL_law_807 808 rfl ic_1 ?_
                            refine jo1_s (P := fun (j246 : Int32) => Gq p l e room_1 s m args below meth c D A 22 Q (wC g h1 h2 ++ (wB cyI h1 b1 ++ (wB cyI h2 b2 ++ (wA cyI z14 n15 f16 ++ (wA cyI z18 n19 f20 ++ (wA cyI z22 5 f23 ++ (wA cyI z25 n26 f27 ++ wS cyI cyJ z h u))))))) (cells + 3) (slots + 18) 816 [(0, .ref sc.1), (1, .ref g), (2, .ref z), (3, .int l3), (5, .int l5), (6, .ref z14), (7, .ref z18), (12, .int l12), (13, .int l13), (14, .int l14), (15, .int l15), (16, .int (l16 + j220)), (17, .int (l17 + j224)), (18, .int (l18 + j228)), (19, .int l19), (20, .int x201)] [.int j246, .int j242]) hf (fun j246 hf => ?_) (fun K245 hK245 hf => ?_)
                            · refine g_icmp_eq C dL_law_816 821 819 (by decide) rfl (fun c247 => ?_) (fun c247 => ?_)
                              · have hf := ifp c247 hf
                                exact hK231 hf
                              · have hf := ifn c247 hf
                                refine g_iconst C dL_law_819 820 rfl ic_0 ?_
                                exact absurd (Option.some.inj hf) (by decide)
                            · refine g_icmp_ne C dL_law_808 815 811 (by decide) rfl (fun c248 => ?_) (fun c248 => ?_)
                              · have hf := ifn c248 hf
                                refine g_iconst C dL_law_815 816 rfl ic_0 ?_
                                exact hK245 0 hf
                              · have hf := ifp c248 hf
                                refine g_iconst C dL_law_811 812 rfl ic_1 ?_
                                refine g_goto C dL_law_812 816 (by decide) ?_
                                exact hK245 1 hf
                          · refine g_icmp_ne C dL_law_794 801 797 (by decide) rfl (fun c249 => ?_) (fun c249 => ?_)
                            · have hf := ifn c249 hf
                              refine g_iconst C dL_law_801 802 rfl ic_0 ?_
                              refine g_lv [1, 2, 3, 4, 5, 6, 7, 8, 9, 10, 11, 12, 13, 0, 14, 15] (lv' := [(0, .ref sc.1), (1, .ref g), (2, .ref z), (3, .int l3), (5, .int l5), (6, .ref z14), (7, .ref z18), (12, .int l12), (13, .int l13), (14, .int l14), (15, .int l15), (16, .int (l16 + j220)), (17, .int (l17 + j224)), (18, .int (l18 + j228)), (19, .int l19), (20, .int x201)]) rfl ?_
                              exact hK241 0 hf
                            · have hf := ifp c249 hf
                              refine g_iconst C dL_law_797 798 rfl ic_1 ?_
                              refine g_goto C dL_law_798 802 (by decide) ?_
                              refine g_lv [1, 2, 3, 4, 5, 6, 7, 8, 9, 10, 11, 12, 13, 0, 14, 15] (lv' := [(0, .ref sc.1), (1, .ref g), (2, .ref z), (3, .int l3), (5, .int l5), (6, .ref z14), (7, .ref z18), (12, .int l12), (13, .int l13), (14, .int l14), (15, .int l15), (16, .int (l16 + j220)), (17, .int (l17 + j224)), (18, .int (l18 + j228)), (19, .int l19), (20, .int x201)]) rfl ?_
                              exact hK241 1 hf
                    · refine g_icmp_ne C dL_law_759 779 762 (by decide) rfl (fun c250 => ?_) (fun c250 => ?_)
                      · have hf := ifn c250 hf
                        refine g_iconst C dL_law_779 780 rfl ic_0 ?_
                        refine g_lv [1, 2, 3, 4, 5, 6, 7, 8, 9, 10, 11, 12, 0, 14, 15] (lv' := [(0, .ref sc.1), (1, .ref g), (2, .ref z), (3, .int l3), (5, .int l5), (6, .ref z14), (7, .ref z18), (12, .int l12), (13, .int l13), (14, .int l14), (15, .int l15), (16, .int (l16 + j220)), (17, .int (l17 + j224)), (19, .int l19), (20, .int x201)]) rfl ?_
                        refine g_wide (c2 := cells + 3) (s2 := slots + 18) (by omega) (by omega) ?_
                        exact hK227 0 hf
                      · have hf := ifp c250 hf
                        refine g_iload C dL_law_762 764 rfl 15 rfl ?_
                        refine g_iconst C dL_law_764 765 rfl ic_4 ?_
                        refine g_icmp_ne C dL_law_765 779 768 (by decide) rfl (fun c251 => ?_) (fun c251 => ?_)
                        · have hf := ifn c251 hf
                          refine g_iconst C dL_law_779 780 rfl ic_0 ?_
                          refine g_lv [1, 2, 3, 4, 5, 6, 7, 8, 9, 10, 11, 12, 0, 14, 15] (lv' := [(0, .ref sc.1), (1, .ref g), (2, .ref z), (3, .int l3), (5, .int l5), (6, .ref z14), (7, .ref z18), (12, .int l12), (13, .int l13), (14, .int l14), (15, .int l15), (16, .int (l16 + j220)), (17, .int (l17 + j224)), (19, .int l19), (20, .int x201)]) rfl ?_
                          refine g_wide (c2 := cells + 3) (s2 := slots + 18) (by omega) (by omega) ?_
                          exact hK227 0 hf
                        · have hf := ifp c251 hf
                          refine g_iconst C dL_law_768 769 rfl ic_3 ?_
                          refine g_aload_n C dL_law_769 770 rfl 2 rfl ?_
                          refine g_iload C dL_law_770 772 rfl 14 rfl ?_
                          obtain ⟨x252, e253, hf⟩ := bz1_s hf
                          refine g_callV1 C (m_X1_hiddenOf_r hfl (g := g) (h1 := h1) (h2 := h2) e253) cf_X1_hiddenOf gL_law_X1_hiddenOf ⟨Nat.le_of_ble_eq_true rfl, Nat.le_of_ble_eq_true rfl⟩ (q0 := 0) (As := [.int l19]) (rest := [.int 3, .int l18]) (wl := []) (wr := wA cyI z14 n15 f16 ++ (wA cyI z18 n19 f20 ++ (wA cyI z22 5 f23 ++ (wA cyI z25 n26 f27 ++ wS cyI cyJ z h u)))) (c2 := cells + 3) (s2 := slots + 18) rfl rfl rfl rfl rfl rfl (Nat.le_of_ble_eq_true rfl) rfl rfl ⟨(by show _ ≤ 600104; omega), (by show _ ≤ 7301314; omega)⟩ dL_law_772 775 rfl (ws2 := wC g h1 h2 ++ (wB cyI h1 b1 ++ (wB cyI h2 b2 ++ (wA cyI z14 n15 f16 ++ (wA cyI z18 n19 f20 ++ (wA cyI z22 5 f23 ++ (wA cyI z25 n26 f27 ++ wS cyI cyJ z h u))))))) rfl (st2 := [.int x252, .int 3, .int l18]) rfl ?_
                          refine g_imul C dL_law_775 776 rfl ?_
                          refine g_goto C dL_law_776 780 (by decide) ?_
                          refine g_lv [1, 2, 3, 4, 5, 6, 7, 8, 9, 10, 11, 12, 0, 14, 15] (lv' := [(0, .ref sc.1), (1, .ref g), (2, .ref z), (3, .int l3), (5, .int l5), (6, .ref z14), (7, .ref z18), (12, .int l12), (13, .int l13), (14, .int l14), (15, .int l15), (16, .int (l16 + j220)), (17, .int (l17 + j224)), (19, .int l19), (20, .int x201)]) rfl ?_
                          exact hK227 (3 * x252) hf
                  · refine g_if_ne C dL_law_734 747 737 (by decide) rfl (fun c255 => ?_) (fun c255 => ?_)
                    · have hf := ifn c255 hf
                      refine g_iconst C dL_law_747 748 rfl ic_0 ?_
                      refine g_lv [1, 2, 3, 4, 5, 6, 7, 8, 9, 10, 11, 0, 13, 14, 15] (lv' := [(0, .ref sc.1), (1, .ref g), (2, .ref z), (3, .int l3), (5, .int l5), (6, .ref z14), (7, .ref z18), (12, .int l12), (13, .int l13), (14, .int l14), (15, .int l15), (16, .int (l16 + j220)), (18, .int l18), (19, .int l19), (20, .int x201)]) rfl ?_
                      exact hK223 0 hf
                    · have hf := ifp c255 hf
                      refine g_iload C dL_law_737 739 rfl 15 rfl ?_
                      refine g_iconst C dL_law_739 740 rfl ic_4 ?_
                      refine g_icmp_ne C dL_law_740 747 743 (by decide) rfl (fun c256 => ?_) (fun c256 => ?_)
                      · have hf := ifn c256 hf
                        refine g_iconst C dL_law_747 748 rfl ic_0 ?_
                        refine g_lv [1, 2, 3, 4, 5, 6, 7, 8, 9, 10, 11, 0, 13, 14, 15] (lv' := [(0, .ref sc.1), (1, .ref g), (2, .ref z), (3, .int l3), (5, .int l5), (6, .ref z14), (7, .ref z18), (12, .int l12), (13, .int l13), (14, .int l14), (15, .int l15), (16, .int (l16 + j220)), (18, .int l18), (19, .int l19), (20, .int x201)]) rfl ?_
                        exact hK223 0 hf
                      · have hf := ifp c256 hf
                        refine g_iconst C dL_law_743 744 rfl ic_1 ?_
                        refine g_goto C dL_law_744 748 (by decide) ?_
                        refine g_lv [1, 2, 3, 4, 5, 6, 7, 8, 9, 10, 11, 0, 13, 14, 15] (lv' := [(0, .ref sc.1), (1, .ref g), (2, .ref z), (3, .int l3), (5, .int l5), (6, .ref z14), (7, .ref z18), (12, .int l12), (13, .int l13), (14, .int l14), (15, .int l15), (16, .int (l16 + j220)), (18, .int l18), (19, .int l19), (20, .int x201)]) rfl ?_
                        exact hK223 1 hf
                · refine g_icmp_ne C dL_law_710 723 713 (by decide) rfl (fun c257 => ?_) (fun c257 => ?_)
                  · have hf := ifn c257 hf
                    refine g_iconst C dL_law_723 724 rfl ic_0 ?_
                    refine g_lv [0, 1, 2, 3, 4, 5, 6, 7, 8, 9, 10, 12, 13, 14, 15] (lv' := [(0, .ref sc.1), (1, .ref g), (2, .ref z), (3, .int l3), (5, .int l5), (6, .ref z14), (7, .ref z18), (12, .int l12), (13, .int l13), (14, .int l14), (15, .int l15), (17, .int l17), (18, .int l18), (19, .int l19), (20, .int x201)]) rfl ?_
                    exact hK219 0 hf
                  · have hf := ifp c257 hf
                    refine g_iload C dL_law_713 715 rfl 15 rfl ?_
                    refine g_iconst C dL_law_715 716 rfl ic_3 ?_
                    refine g_icmp_ne C dL_law_716 723 719 (by decide) rfl (fun c258 => ?_) (fun c258 => ?_)
                    · have hf := ifn c258 hf
                      refine g_iconst C dL_law_723 724 rfl ic_0 ?_
                      refine g_lv [0, 1, 2, 3, 4, 5, 6, 7, 8, 9, 10, 12, 13, 14, 15] (lv' := [(0, .ref sc.1), (1, .ref g), (2, .ref z), (3, .int l3), (5, .int l5), (6, .ref z14), (7, .ref z18), (12, .int l12), (13, .int l13), (14, .int l14), (15, .int l15), (17, .int l17), (18, .int l18), (19, .int l19), (20, .int x201)]) rfl ?_
                      exact hK219 0 hf
                    · have hf := ifp c258 hf
                      refine g_iconst C dL_law_719 720 rfl ic_1 ?_
                      refine g_goto C dL_law_720 724 (by decide) ?_
                      refine g_lv [0, 1, 2, 3, 4, 5, 6, 7, 8, 9, 10, 12, 13, 14, 15] (lv' := [(0, .ref sc.1), (1, .ref g), (2, .ref z), (3, .int l3), (5, .int l5), (6, .ref z14), (7, .ref z18), (12, .int l12), (13, .int l13), (14, .int l14), (15, .int l15), (17, .int l17), (18, .int l18), (19, .int l19), (20, .int x201)]) rfl ?_
                      exact hK219 1 hf
              · have hf := ifn c216 hf
                refine g_iconst C dL_law_700 701 rfl ic_0 ?_
                exact absurd (Option.some.inj hf) (by decide)
            · refine g_if_ne C dL_law_679 692 682 (by decide) rfl (fun c259 => ?_) (fun c259 => ?_)
              · have hf := ifn c259 hf
                refine g_aload C dL_law_692 694 rfl 7 rfl ?_
                refine g_iload C dL_law_694 696 rfl 15 rfl ?_
                obtain ⟨x261, e260, hf⟩ := bd1_s hf
                refine g_iald C 24 0 rfl rfl e260 dL_law_696 697 rfl ?_
                refine g_lv [1, 2, 3, 4, 5, 6, 7, 8, 9, 10, 11, 12, 13, 14, 15, 16] (lv' := [(0, .ref sc.1), (1, .ref g), (2, .ref z), (3, .int l3), (5, .int l5), (6, .ref z14), (7, .ref z18), (12, .int l12), (13, .int l13), (14, .int l14), (15, .int l15), (16, .int l16), (17, .int l17), (18, .int l18), (19, .int l19), (20, .int x201)]) rfl ?_
                exact hK214 x261 hf
              · have hf := ifp c259 hf
                refine g_aload C dL_law_682 684 rfl 7 rfl ?_
                refine g_iload C dL_law_684 686 rfl 15 rfl ?_
                obtain ⟨x263, e262, hf⟩ := bd1_s hf
                refine g_iald C 24 0 rfl rfl e262 dL_law_686 687 rfl ?_
                refine g_iconst C dL_law_687 688 rfl ic_1 ?_
                refine g_isub C dL_law_688 689 rfl ?_
                refine g_goto C dL_law_689 697 (by decide) ?_
                refine g_lv [1, 2, 3, 4, 5, 6, 7, 8, 9, 10, 11, 12, 13, 14, 15, 16] (lv' := [(0, .ref sc.1), (1, .ref g), (2, .ref z), (3, .int l3), (5, .int l5), (6, .ref z14), (7, .ref z18), (12, .int l12), (13, .int l13), (14, .int l14), (15, .int l15), (16, .int l16), (17, .int l17), (18, .int l18), (19, .int l19), (20, .int x201)]) rfl ?_
                exact hK214 (x263 - 1) hf
        · refine g_icmp_eq C dL_law_597 656 600 (by decide) rfl (fun c264 => ?_) (fun c264 => ?_)
          · have hf := ifp c264 hf
            refine g_iconst C dL_law_656 657 rfl ic_1 ?_
            refine g_goto C dL_law_657 661 (by decide) ?_
            refine g_lv [1, 2, 3, 4, 5, 6, 7, 8, 9, 10, 11, 12, 13, 14, 15, 0] (lv' := [(0, .ref sc.1), (1, .ref g), (2, .ref z), (3, .int l3), (5, .int l5), (6, .ref z14), (7, .ref z18), (12, .int l12), (13, .int l13), (14, .int l14), (15, .int l15), (16, .int l16), (17, .int l17), (18, .int l18), (19, .int l19), (20, .int x201)]) rfl ?_
            exact hK206 1 hf
          · have hf := ifn c264 hf
            refine g_aload C dL_law_600 602 rfl 6 rfl ?_
            refine g_iload C dL_law_602 604 rfl 15 rfl ?_
            obtain ⟨x266, e265, hf⟩ := bd1_s hf
            refine g_iald C 23 0 rfl rfl e265 dL_law_604 605 rfl ?_
            refine jo0_s (P := Gq p l e room_1 s m args below meth c D A 22 Q (wC g h1 h2 ++ (wB cyI h1 b1 ++ (wB cyI h2 b2 ++ (wA cyI z14 n15 f16 ++ (wA cyI z18 n19 f20 ++ (wA cyI z22 5 f23 ++ (wA cyI z25 n26 f27 ++ wS cyI cyJ z h u))))))) (cells + 1) (slots + 6) 620 [(0, .ref sc.1), (1, .ref g), (2, .ref z), (3, .int l3), (5, .int l5), (6, .ref z14), (7, .ref z18), (12, .int l12), (13, .int l13), (14, .int l14), (15, .int l15), (16, .int l16), (17, .int l17), (18, .int l18), (19, .int l19), (20, .int x201)] []) hf (fun hf => ?_) (fun K267 hK267 hf => ?_)
            · refine g_aload C dL_law_620 622 rfl 5 rfl ?_
              refine g_iload C dL_law_622 624 rfl 14 rfl ?_
              obtain ⟨x269, e268, hf⟩ := bd1_s hf
              refine g_iald C 23 0 rfl rfl e268 dL_law_624 625 rfl ?_
              refine g_iconst C dL_law_625 626 rfl ic_1 ?_
              refine jo0_s (P := Gq p l e room_1 s m args below meth c D A 22 Q (wC g h1 h2 ++ (wB cyI h1 b1 ++ (wB cyI h2 b2 ++ (wA cyI z14 n15 f16 ++ (wA cyI z18 n19 f20 ++ (wA cyI z22 5 f23 ++ (wA cyI z25 n26 f27 ++ wS cyI cyJ z h u))))))) (cells + 1) (slots + 6) 641 [(0, .ref sc.1), (1, .ref g), (2, .ref z), (3, .int l3), (5, .int l5), (6, .ref z14), (7, .ref z18), (12, .int l12), (13, .int l13), (14, .int l14), (15, .int l15), (16, .int l16), (17, .int l17), (18, .int l18), (19, .int l19), (20, .int x201)] []) hf (fun hf => ?_) (fun K270 hK270 hf => ?_)
              · refine g_aload C dL_law_641 643 rfl 5 rfl ?_
                refine g_iload C dL_law_643 645 rfl 14 rfl ?_
                obtain ⟨x272, e271, hf⟩ := bd1_s hf
                refine g_iald C 23 0 rfl rfl e271 dL_law_645 646 rfl ?_
                refine g_iconst C dL_law_646 647 rfl ic_2 ?_
                refine g_icmp_ne C dL_law_647 660 650 (by decide) rfl (fun c273 => ?_) (fun c273 => ?_)
                · have hf := ifn c273 hf
                  refine g_iconst C dL_law_660 661 rfl ic_0 ?_
                  exact hK206 0 hf
                · have hf := ifp c273 hf
                  refine g_iload C dL_law_650 652 rfl 15 rfl ?_
                  refine g_iconst C dL_law_652 653 rfl ic_3 ?_
                  refine g_icmp_ne C dL_law_653 660 656 (by decide) rfl (fun c274 => ?_) (fun c274 => ?_)
                  · have hf := ifn c274 hf
                    refine g_iconst C dL_law_660 661 rfl ic_0 ?_
                    exact hK206 0 hf
                  · have hf := ifp c274 hf
                    refine g_iconst C dL_law_656 657 rfl ic_1 ?_
                    refine g_goto C dL_law_657 661 (by decide) ?_
                    exact hK206 1 hf
              · refine g_icmp_ne C dL_law_626 641 629 (by decide) rfl (fun c275 => ?_) (fun c275 => ?_)
                · have hf := ifn c275 hf
                  exact hK270 hf
                · have hf := ifp c275 hf
                  refine g_iload C dL_law_629 631 rfl 15 rfl ?_
                  refine g_iconst C dL_law_631 632 rfl ic_2 ?_
                  refine g_icmp_eq C dL_law_632 656 635 (by decide) rfl (fun c276 => ?_) (fun c276 => ?_)
                  · have hf := ifp c276 hf
                    refine g_iconst C dL_law_656 657 rfl ic_1 ?_
                    refine g_goto C dL_law_657 661 (by decide) ?_
                    exact hK206 1 hf
                  · have hf := ifn c276 hf
                    refine g_iload C dL_law_635 637 rfl 15 rfl ?_
                    refine g_iconst C dL_law_637 638 rfl ic_4 ?_
                    refine g_icmp_eq C dL_law_638 656 641 (by decide) rfl (fun c277 => ?_) (fun c277 => ?_)
                    · have hf := ifp c277 hf
                      refine g_iconst C dL_law_656 657 rfl ic_1 ?_
                      refine g_goto C dL_law_657 661 (by decide) ?_
                      exact hK206 1 hf
                    · have hf := ifn c277 hf
                      exact hK270 hf
            · refine g_if_ne C dL_law_605 620 608 (by decide) rfl (fun c278 => ?_) (fun c278 => ?_)
              · have hf := ifn c278 hf
                refine g_lv [1, 2, 3, 4, 5, 6, 7, 8, 9, 10, 11, 12, 13, 14, 15, 0] (lv' := [(0, .ref sc.1), (1, .ref g), (2, .ref z), (3, .int l3), (5, .int l5), (6, .ref z14), (7, .ref z18), (12, .int l12), (13, .int l13), (14, .int l14), (15, .int l15), (16, .int l16), (17, .int l17), (18, .int l18), (19, .int l19), (20, .int x201)]) rfl ?_
                exact hK267 hf
              · have hf := ifp c278 hf
                refine g_iload C dL_law_608 610 rfl 0 rfl ?_
                refine g_iconst C dL_law_610 611 rfl ic_1 ?_
                refine g_icmp_eq C dL_law_611 656 614 (by decide) rfl (fun c279 => ?_) (fun c279 => ?_)
                · have hf := ifp c279 hf
                  refine g_iconst C dL_law_656 657 rfl ic_1 ?_
                  refine g_goto C dL_law_657 661 (by decide) ?_
                  refine g_lv [1, 2, 3, 4, 5, 6, 7, 8, 9, 10, 11, 12, 13, 14, 15, 0] (lv' := [(0, .ref sc.1), (1, .ref g), (2, .ref z), (3, .int l3), (5, .int l5), (6, .ref z14), (7, .ref z18), (12, .int l12), (13, .int l13), (14, .int l14), (15, .int l15), (16, .int l16), (17, .int l17), (18, .int l18), (19, .int l19), (20, .int x201)]) rfl ?_
                  exact hK206 1 hf
                · have hf := ifn c279 hf
                  refine g_iload C dL_law_614 616 rfl 0 rfl ?_
                  refine g_iconst C dL_law_616 617 rfl ic_4 ?_
                  refine g_icmp_eq C dL_law_617 656 620 (by decide) rfl (fun c280 => ?_) (fun c280 => ?_)
                  · have hf := ifp c280 hf
                    refine g_iconst C dL_law_656 657 rfl ic_1 ?_
                    refine g_goto C dL_law_657 661 (by decide) ?_
                    refine g_lv [1, 2, 3, 4, 5, 6, 7, 8, 9, 10, 11, 12, 13, 14, 15, 0] (lv' := [(0, .ref sc.1), (1, .ref g), (2, .ref z), (3, .int l3), (5, .int l5), (6, .ref z14), (7, .ref z18), (12, .int l12), (13, .int l13), (14, .int l14), (15, .int l15), (16, .int l16), (17, .int l17), (18, .int l18), (19, .int l19), (20, .int x201)]) rfl ?_
                    exact hK206 1 hf
                  · have hf := ifn c280 hf
                    refine g_lv [1, 2, 3, 4, 5, 6, 7, 8, 9, 10, 11, 12, 13, 14, 15, 0] (lv' := [(0, .ref sc.1), (1, .ref g), (2, .ref z), (3, .int l3), (5, .int l5), (6, .ref z14), (7, .ref z18), (12, .int l12), (13, .int l13), (14, .int l14), (15, .int l15), (16, .int l16), (17, .int l17), (18, .int l18), (19, .int l19), (20, .int x201)]) rfl ?_
                    exact hK267 hf
  have L22 : ∀ (n : Nat) (l3 : Int32) (b1 : S2) (u : S2) (h : Nat → Nat → Nat) (cells slots : Nat), cells + n * 370 + 403 ≤ 600104 → slots + n * 2397 + 2418 ≤ 7301314 → L_law_L22 sc b2 n l3 b1 u = some 1 → Gq p l e room_1 s m args below meth c D A 22 Q (wC g h1 h2 ++ (wB cyI h1 b1 ++ (wB cyI h2 b2 ++ wS cyI cyJ z h u))) cells slots 22 [(0, .ref sc.1), (1, .ref g), (2, .ref z), (3, .int l3)] [] := by
    intro n
    induction n with
    | zero => intro l3 b1 u h cells slots hc1 hc2 hf; simp [L_law_L22] at hf
    | succ n ih =>
      intro l3 b1 u h cells slots hc1 hc2 hf
      rw [L_law_L22] at hf
      refine g_iload_n C dL_law_22 23 rfl 3 rfl ?_
      refine g_bipush C dL_law_23 25 rfl bp_40 ?_
      refine g_icmp_ge C dL_law_25 904 28 (by decide) rfl (fun c1 => ?_) (fun c1 => ?_)
      · have hf := ifp c1 hf
        refine g_aload_n C dL_law_904 905 rfl 2 rfl ?_
        refine g_aload_n C dL_law_905 906 rfl 1 rfl ?_
        obtain ⟨x2, e3, hf⟩ := bd1_s hf
        refine g_callV1 C (m_X2_isSame hfl (g := g) (h1 := h1) (h2 := h2) (z := z) (h := h) e3) cf_X2_isSame gL_law_X2_isSame ⟨Nat.le_of_ble_eq_true rfl, Nat.le_of_ble_eq_true rfl⟩ (q0 := 23) (As := [.ref g]) (rest := []) (wl := []) (wr := []) (c2 := cells + 403) (s2 := slots + 2418) rfl rfl rfl (by rw [List.append_nil] <;> rfl) rfl rfl (Nat.le_of_ble_eq_true rfl) rfl rfl ⟨(by show _ ≤ 600104; omega), (by show _ ≤ 7301314; omega)⟩ dL_law_906 909 rfl (ws2 := wC g h1 h2 ++ (wB cyI h1 b1 ++ (wB cyI h2 b2 ++ wS cyI cyJ z h u))) (by rw [List.append_nil] <;> rfl) (st2 := [.int x2]) rfl ?_
        exact hEnd _ _ _ _ _ _ dL_law_909 (Option.some.inj hf) (by omega) (by omega)
      · have hf := ifn c1 hf
        refine g_aload_n C dL_law_28 29 rfl 0 rfl ?_
        refine g_iload_n C dL_law_29 30 rfl 3 rfl ?_
        refine g_bipush C dL_law_30 32 rfl bp_16 ?_
        refine g_irem C (by decide) dL_law_32 33 rfl ?_
        obtain ⟨x4, e5, hf⟩ := bd1_s hf
        refine g_callS1 C (m_L_cell hfl  e5) cf_L_cell gL_law_L_cell ⟨Nat.le_of_ble_eq_true rfl, Nat.le_of_ble_eq_true rfl⟩ (As := [.ref sc.1, .int (l3 - l3 / 16 * 16)]) (rest := []) (wl := []) (wr := wC g h1 h2 ++ (wB cyI h1 b1 ++ (wB cyI h2 b2 ++ wS cyI cyJ z h u))) (c2 := cells) (s2 := slots) rfl rfl rfl (Nat.le_of_ble_eq_true rfl) rfl rfl ⟨(by show _ ≤ 600104; omega), (by show _ ≤ 7301314; omega)⟩ dL_law_33 36 rfl (ws2 := wC g h1 h2 ++ (wB cyI h1 b1 ++ (wB cyI h2 b2 ++ wS cyI cyJ z h u))) rfl (st2 := [.int x4]) rfl ?_
        refine g_iload_n C dL_law_36 37 rfl 3 rfl ?_
        refine g_bipush C dL_law_37 39 rfl bp_16 ?_
        refine g_idiv C (by decide) dL_law_39 40 rfl ?_
        refine g_iconst C dL_law_40 41 rfl ic_3 ?_
        refine g_imul C dL_law_41 42 rfl ?_
        refine g_ishr C dL_law_42 43 rfl ?_
        refine g_sipush C sp_653 dL_law_43 46 rfl ?_
        refine g_iload_n C dL_law_46 47 rfl 3 rfl ?_
        refine g_imul C dL_law_47 48 rfl ?_
        refine g_iadd C dL_law_48 49 rfl ?_
        refine g_istore C dL_law_49 51 rfl (by decide) (lv' := [(4, .int ((x4 >>> (((l3 / 16) * 3) &&& 31)) + (653 * l3))), (0, .ref sc.1), (1, .ref g), (2, .ref z), (3, .int l3)]) rfl ?_
        refine g_aload_n C dL_law_51 52 rfl 2 rfl ?_
        refine g_aload_n C dL_law_52 53 rfl 3 rfl ?_
        refine g_iload C dL_law_53 55 rfl 0 rfl ?_
        obtain ⟨x6, b1_7, u_8, e10, hf⟩ := bd3_s hf
        refine g_callSh C (m_L_act hfl (g := g) (h1 := h1) (h2 := h2) (z := z) (h := h) e10) cf_L_act gL_law_L_act ⟨Nat.le_of_ble_eq_true rfl, Nat.le_of_ble_eq_true rfl⟩ (As := [.ref g, .ref z, .int ((x4 >>> (((l3 / 16) * 3) &&& 31)) + (653 * l3))]) (rest := []) (wl := []) (wr := []) (c2 := cells + 62) (s2 := slots + 494) (by rw [List.append_nil] <;> rfl) rfl rfl (Nat.le_of_ble_eq_true rfl) rfl rfl ⟨(by show _ ≤ 600104; omega), (by show _ ≤ 7301314; omega)⟩ dL_law_55 58 rfl (ws2 := fun h9 => wC g h1 h2 ++ (wB cyI h1 b1_7 ++ (wB cyI h2 b2 ++ wS cyI cyJ z h9 u_8))) (fun h9 => (by rw [List.append_nil] <;> rfl)) (st2 := [.int x6]) rfl (fun h9 => ?_)
        refine g_if_ne C dL_law_58 63 61 (by decide) rfl (fun c11 => ?_) (fun c11 => ?_)
        · have hf := ifn c11 hf
          refine g_aload_n C dL_law_63 64 rfl 2 rfl ?_
          obtain ⟨x12, e13, hf⟩ := bd1_s hf
          refine g_callV1 C (m_X1_travellers hfl (g := g) (h1 := h1) (h2 := h2) e13) cf_X1_travellers gL_law_X1_travellers ⟨Nat.le_of_ble_eq_true rfl, Nat.le_of_ble_eq_true rfl⟩ (q0 := 0) (As := []) (rest := []) (wl := []) (wr := wS cyI cyJ z h9 u_8) (c2 := cells + 62) (s2 := slots + 494) rfl rfl rfl rfl rfl rfl (Nat.le_of_ble_eq_true rfl) rfl rfl ⟨(by show _ ≤ 600104; omega), (by show _ ≤ 7301314; omega)⟩ dL_law_64 67 rfl (ws2 := wC g h1 h2 ++ (wB cyI h1 b1_7 ++ (wB cyI h2 b2 ++ wS cyI cyJ z h9 u_8))) rfl (st2 := [.int x12]) rfl ?_
          refine g_istore C dL_law_67 69 rfl (by decide) (lv' := [(5, .int x12), (4, .int ((x4 >>> (((l3 / 16) * 3) &&& 31)) + (653 * l3))), (0, .ref sc.1), (1, .ref g), (2, .ref z), (3, .int l3)]) rfl ?_
          refine g_iload C dL_law_69 71 rfl 0 rfl ?_
          obtain ⟨n15, e17, hf⟩ := bd1_s hf
          refine g_newv C (atype := .int) (cap := 24) (n := n15) kw0 rfl (fun _ h => by cases h) 0 rfl (fun _ => rfl) e17 (by decide) (c2 := cells + 63) (s2 := slots + 518) rfl rfl (by show _ ≤ 600104; omega) (by show _ ≤ 7301314; omega) dL_law_71 73 rfl (fun z14 => ?_)
          refine g_perm (ws' := wC g h1 h2 ++ (wB cyI h1 b1_7 ++ (wB cyI h2 b2 ++ (wA cyI z14 n15 (fun _ => 0) ++ wS cyI cyJ z h9 u_8)))) (wl := wC g h1 h2 ++ (wB cyI h1 b1_7 ++ wB cyI h2 b2)) (w1 := wS cyI cyJ z h9 u_8) (w2 := wA cyI z14 n15 (fun _ => 0)) rfl rfl ?_
          refine g_astore C dL_law_73 75 rfl (by decide) (lv' := [(6, .ref z14), (5, .int x12), (4, .int ((x4 >>> (((l3 / 16) * 3) &&& 31)) + (653 * l3))), (0, .ref sc.1), (1, .ref g), (2, .ref z), (3, .int l3)]) rfl ?_
          refine g_iload C dL_law_75 77 rfl 1 rfl ?_
          obtain ⟨n19, e21, hf⟩ := bd1_s hf
          refine g_newv C (atype := .int) (cap := 24) (n := n19) kw0 rfl (fun _ h => by cases h) 0 rfl (fun _ => rfl) e21 (by decide) (c2 := cells + 64) (s2 := slots + 542) rfl rfl (by show _ ≤ 600104; omega) (by show _ ≤ 7301314; omega) dL_law_77 79 rfl (fun z18 => ?_)
          refine g_perm (ws' := wC g h1 h2 ++ (wB cyI h1 b1_7 ++ (wB cyI h2 b2 ++ (wA cyI z14 n15 (fun _ => 0) ++ (wA cyI z18 n19 (fun _ => 0) ++ wS cyI cyJ z h9 u_8))))) (wl := wC g h1 h2 ++ (wB cyI h1 b1_7 ++ (wB cyI h2 b2 ++ wA cyI z14 n15 (fun _ => 0)))) (w1 := wS cyI cyJ z h9 u_8) (w2 := wA cyI z18 n19 (fun _ => 0)) rfl rfl ?_
          refine g_astore C dL_law_79 81 rfl (by decide) (lv' := [(7, .ref z18), (6, .ref z14), (5, .int x12), (4, .int ((x4 >>> (((l3 / 16) * 3) &&& 31)) + (653 * l3))), (0, .ref sc.1), (1, .ref g), (2, .ref z), (3, .int l3)]) rfl ?_
          refine g_iconst C dL_law_81 82 rfl ic_5 ?_
          refine g_newa C (atype := .int) (a0 := (5, .inl (fun _ => 0))) (n := 5) kw0 rfl (fun _ h => by cases h) 0 rfl 5 (fun _ => rfl) (by decide) rfl (by decide) (c2 := cells + 65) (s2 := slots + 547) rfl rfl (by show _ ≤ 600104; omega) (by show _ ≤ 7301314; omega) dL_law_82 84 rfl (fun z22 => ?_)
          refine g_perm (ws' := wC g h1 h2 ++ (wB cyI h1 b1_7 ++ (wB cyI h2 b2 ++ (wA cyI z14 n15 (fun _ => 0) ++ (wA cyI z18 n19 (fun _ => 0) ++ (wA cyI z22 5 (fun _ => 0) ++ wS cyI cyJ z h9 u_8)))))) (wl := wC g h1 h2 ++ (wB cyI h1 b1_7 ++ (wB cyI h2 b2 ++ (wA cyI z14 n15 (fun _ => 0) ++ wA cyI z18 n19 (fun _ => 0))))) (w1 := wS cyI cyJ z h9 u_8) (w2 := wA cyI z22 5 (fun _ => 0)) rfl rfl ?_
          refine g_astore C dL_law_84 86 rfl (by decide) (lv' := [(8, .ref z22), (7, .ref z18), (6, .ref z14), (5, .int x12), (4, .int ((x4 >>> (((l3 / 16) * 3) &&& 31)) + (653 * l3))), (0, .ref sc.1), (1, .ref g), (2, .ref z), (3, .int l3)]) rfl ?_
          refine g_iload C dL_law_86 88 rfl 3 rfl ?_
          obtain ⟨n26, e28, hf⟩ := bd1_s hf
          refine g_newv C (atype := .int) (cap := 24) (n := n26) kw0 rfl (fun _ h => by cases h) 0 rfl (fun _ => rfl) e28 (by decide) (c2 := cells + 66) (s2 := slots + 571) rfl rfl (by show _ ≤ 600104; omega) (by show _ ≤ 7301314; omega) dL_law_88 90 rfl (fun z25 => ?_)
          refine g_perm (ws' := wC g h1 h2 ++ (wB cyI h1 b1_7 ++ (wB cyI h2 b2 ++ (wA cyI z14 n15 (fun _ => 0) ++ (wA cyI z18 n19 (fun _ => 0) ++ (wA cyI z22 5 (fun _ => 0) ++ (wA cyI z25 n26 (fun _ => 0) ++ wS cyI cyJ z h9 u_8))))))) (wl := wC g h1 h2 ++ (wB cyI h1 b1_7 ++ (wB cyI h2 b2 ++ (wA cyI z14 n15 (fun _ => 0) ++ (wA cyI z18 n19 (fun _ => 0) ++ wA cyI z22 5 (fun _ => 0)))))) (w1 := wS cyI cyJ z h9 u_8) (w2 := wA cyI z25 n26 (fun _ => 0)) rfl rfl ?_
          refine g_astore C dL_law_90 92 rfl (by decide) (lv' := [(9, .ref z25), (8, .ref z22), (7, .ref z18), (6, .ref z14), (5, .int x12), (4, .int ((x4 >>> (((l3 / 16) * 3) &&& 31)) + (653 * l3))), (0, .ref sc.1), (1, .ref g), (2, .ref z), (3, .int l3)]) rfl ?_
          refine g_iconst C dL_law_92 93 rfl ic_0 ?_
          refine g_istore C dL_law_93 95 rfl (by decide) (lv' := [(10, .int 0), (9, .ref z25), (8, .ref z22), (7, .ref z18), (6, .ref z14), (5, .int x12), (4, .int ((x4 >>> (((l3 / 16) * 3) &&& 31)) + (653 * l3))), (0, .ref sc.1), (1, .ref g), (2, .ref z), (3, .int l3)]) rfl ?_
          refine g_iconst C dL_law_95 96 rfl ic_0 ?_
          refine g_istore C dL_law_96 98 rfl (by decide) (lv' := [(11, .int 0), (10, .int 0), (9, .ref z25), (8, .ref z22), (7, .ref z18), (6, .ref z14), (5, .int x12), (4, .int ((x4 >>> (((l3 / 16) * 3) &&& 31)) + (653 * l3))), (0, .ref sc.1), (1, .ref g), (2, .ref z), (3, .int l3)]) rfl ?_
          refine g_lv [8, 9, 10, 11, 6, 5, 4, 3, 2, 1, 0] (lv' := [(0, .ref sc.1), (1, .ref g), (2, .ref z), (3, .int l3), (5, .int x12), (6, .ref z14), (7, .ref z18), (8, .ref z22), (9, .ref z25), (10, .int 0), (11, .int 0)]) rfl ?_
          refine L98 n15 n19 n26 l3 x12 0 (fun _ => 0) (fun _ => 0) (fun _ => 0) h9 z14 z18 z22 z25 (cells + 108) (slots + 823) (by omega) (by omega) _ (fun f27_71 hf => ?_) 5 0 (fun _ => 0) (cells + 66) (slots + 571) (by omega) (by omega) hf
          refine g_iconst C dL_law_210 211 rfl ic_0 ?_
          refine g_istore C dL_law_211 213 rfl (by decide) (lv' := [(11, .int 0), (0, .ref sc.1), (1, .ref g), (2, .ref z), (3, .int l3), (5, .int x12), (6, .ref z14), (7, .ref z18), (8, .ref z22), (9, .ref z25), (10, .int 0)]) rfl ?_
          refine g_iconst C dL_law_213 214 rfl ic_0 ?_
          refine g_istore C dL_law_214 216 rfl (by decide) (lv' := [(12, .int 0), (11, .int 0), (0, .ref sc.1), (1, .ref g), (2, .ref z), (3, .int l3), (5, .int x12), (6, .ref z14), (7, .ref z18), (8, .ref z22), (9, .ref z25), (10, .int 0)]) rfl ?_
          refine g_lv [2, 3, 4, 5, 6, 7, 8, 9, 10, 11, 1, 0] (lv' := [(0, .ref sc.1), (1, .ref g), (2, .ref z), (3, .int l3), (5, .int x12), (6, .ref z14), (7, .ref z18), (8, .ref z22), (9, .ref z25), (10, .int 0), (11, .int 0), (12, .int 0)]) rfl ?_
          refine L216 n15 n19 n26 l3 x12 f27_71 h9 z14 z18 z22 z25 (cells + 264) (slots + 1759) (by omega) (by omega) _ (fun l10_152 f16_153 f20_154 f23_155 hf => ?_) 25 0 0 0 (fun _ => 0) (fun _ => 0) (fun _ => 0) (cells + 108) (slots + 823) (by omega) (by omega) hf
          refine g_aload C dL_law_452 454 rfl 7 rfl ?_
          refine g_iconst C dL_law_454 455 rfl ic_0 ?_
          obtain ⟨x157, e156, hf⟩ := bd1_s hf
          refine g_iald C 25 0 rfl rfl e156 dL_law_455 456 rfl ?_
          refine g_aload_n C dL_law_456 457 rfl 1 rfl ?_
          obtain ⟨x158, e159, hf⟩ := bd1_s hf
          refine g_callV1 C (m_X1_waiting hfl (g := g) (h1 := h1) (h2 := h2) e159) cf_X1_waiting gL_law_X1_waiting ⟨Nat.le_of_ble_eq_true rfl, Nat.le_of_ble_eq_true rfl⟩ (q0 := 0) (As := []) (rest := [.int x157]) (wl := []) (wr := wA cyI z14 n15 f16_153 ++ (wA cyI z18 n19 f20_154 ++ (wA cyI z22 5 f23_155 ++ (wA cyI z25 n26 f27_71 ++ wS cyI cyJ z h9 u_8)))) (c2 := cells + 264) (s2 := slots + 1759) rfl rfl rfl rfl rfl rfl (Nat.le_of_ble_eq_true rfl) rfl rfl ⟨(by show _ ≤ 600104; omega), (by show _ ≤ 7301314; omega)⟩ dL_law_457 460 rfl (ws2 := wC g h1 h2 ++ (wB cyI h1 b1_7 ++ (wB cyI h2 b2 ++ (wA cyI z14 n15 f16_153 ++ (wA cyI z18 n19 f20_154 ++ (wA cyI z22 5 f23_155 ++ (wA cyI z25 n26 f27_71 ++ wS cyI cyJ z h9 u_8))))))) rfl (st2 := [.int x158, .int x157]) rfl ?_
          refine g_icmp_ne C dL_law_460 532 463 (by decide) rfl (fun c160 => ?_) (fun c160 => ?_)
          · have hf := ifn c160 hf
            refine g_iconst C dL_law_532 533 rfl ic_0 ?_
            exact absurd (Option.some.inj hf) (by decide)
          · have hf := ifp c160 hf
            refine g_aload C dL_law_463 465 rfl 7 rfl ?_
            refine g_iconst C dL_law_465 466 rfl ic_3 ?_
            obtain ⟨x162, e161, hf⟩ := bd1_s hf
            refine g_iald C 25 0 rfl rfl e161 dL_law_466 467 rfl ?_
            refine g_aload_n C dL_law_467 468 rfl 1 rfl ?_
            obtain ⟨x163, e164, hf⟩ := bd1_s hf
            refine g_callV1 C (m_X1_asleep hfl (g := g) (h1 := h1) (h2 := h2) e164) cf_X1_asleep gL_law_X1_asleep ⟨Nat.le_of_ble_eq_true rfl, Nat.le_of_ble_eq_true rfl⟩ (q0 := 0) (As := []) (rest := [.int x162]) (wl := []) (wr := wA cyI z14 n15 f16_153 ++ (wA cyI z18 n19 f20_154 ++ (wA cyI z22 5 f23_155 ++ (wA cyI z25 n26 f27_71 ++ wS cyI cyJ z h9 u_8)))) (c2 := cells + 264) (s2 := slots + 1759) rfl rfl rfl rfl rfl rfl (Nat.le_of_ble_eq_true rfl) rfl rfl ⟨(by show _ ≤ 600104; omega), (by show _ ≤ 7301314; omega)⟩ dL_law_468 471 rfl (ws2 := wC g h1 h2 ++ (wB cyI h1 b1_7 ++ (wB cyI h2 b2 ++ (wA cyI z14 n15 f16_153 ++ (wA cyI z18 n19 f20_154 ++ (wA cyI z22 5 f23_155 ++ (wA cyI z25 n26 f27_71 ++ wS cyI cyJ z h9 u_8))))))) rfl (st2 := [.int x163, .int x162]) rfl ?_
            refine g_icmp_ne C dL_law_471 532 474 (by decide) rfl (fun c165 => ?_) (fun c165 => ?_)
            · have hf := ifn c165 hf
              refine g_iconst C dL_law_532 533 rfl ic_0 ?_
              exact absurd (Option.some.inj hf) (by decide)
            · have hf := ifp c165 hf
              refine g_aload C dL_law_474 476 rfl 7 rfl ?_
              refine g_iconst C dL_law_476 477 rfl ic_4 ?_
              obtain ⟨x167, e166, hf⟩ := bd1_s hf
              refine g_iald C 25 0 rfl rfl e166 dL_law_477 478 rfl ?_
              refine g_aload_n C dL_law_478 479 rfl 1 rfl ?_
              obtain ⟨x168, e169, hf⟩ := bd1_s hf
              refine g_callV1 C (m_X1_sentBack hfl (g := g) (h1 := h1) (h2 := h2) e169) cf_X1_sentBack gL_law_X1_sentBack ⟨Nat.le_of_ble_eq_true rfl, Nat.le_of_ble_eq_true rfl⟩ (q0 := 0) (As := []) (rest := [.int x167]) (wl := []) (wr := wA cyI z14 n15 f16_153 ++ (wA cyI z18 n19 f20_154 ++ (wA cyI z22 5 f23_155 ++ (wA cyI z25 n26 f27_71 ++ wS cyI cyJ z h9 u_8)))) (c2 := cells + 264) (s2 := slots + 1759) rfl rfl rfl rfl rfl rfl (Nat.le_of_ble_eq_true rfl) rfl rfl ⟨(by show _ ≤ 600104; omega), (by show _ ≤ 7301314; omega)⟩ dL_law_479 482 rfl (ws2 := wC g h1 h2 ++ (wB cyI h1 b1_7 ++ (wB cyI h2 b2 ++ (wA cyI z14 n15 f16_153 ++ (wA cyI z18 n19 f20_154 ++ (wA cyI z22 5 f23_155 ++ (wA cyI z25 n26 f27_71 ++ wS cyI cyJ z h9 u_8))))))) rfl (st2 := [.int x168, .int x167]) rfl ?_
              refine g_icmp_ne C dL_law_482 532 485 (by decide) rfl (fun c170 => ?_) (fun c170 => ?_)
              · have hf := ifn c170 hf
                refine g_iconst C dL_law_532 533 rfl ic_0 ?_
                exact absurd (Option.some.inj hf) (by decide)
              · have hf := ifp c170 hf
                refine g_aload_n C dL_law_485 486 rfl 1 rfl ?_
                obtain ⟨x171, e172, hf⟩ := bd1_s hf
                refine g_callV1 C (m_X1_expired hfl (g := g) (h1 := h1) (h2 := h2) e172) cf_X1_expired gL_law_X1_expired ⟨Nat.le_of_ble_eq_true rfl, Nat.le_of_ble_eq_true rfl⟩ (q0 := 0) (As := []) (rest := []) (wl := []) (wr := wA cyI z14 n15 f16_153 ++ (wA cyI z18 n19 f20_154 ++ (wA cyI z22 5 f23_155 ++ (wA cyI z25 n26 f27_71 ++ wS cyI cyJ z h9 u_8)))) (c2 := cells + 264) (s2 := slots + 1759) rfl rfl rfl rfl rfl rfl (Nat.le_of_ble_eq_true rfl) rfl rfl ⟨(by show _ ≤ 600104; omega), (by show _ ≤ 7301314; omega)⟩ dL_law_486 489 rfl (ws2 := wC g h1 h2 ++ (wB cyI h1 b1_7 ++ (wB cyI h2 b2 ++ (wA cyI z14 n15 f16_153 ++ (wA cyI z18 n19 f20_154 ++ (wA cyI z22 5 f23_155 ++ (wA cyI z25 n26 f27_71 ++ wS cyI cyJ z h9 u_8))))))) rfl (st2 := [.int x171]) rfl ?_
                refine g_aload C dL_law_489 491 rfl 7 rfl ?_
                refine g_iconst C dL_law_491 492 rfl ic_4 ?_
                obtain ⟨x174, e173, hf⟩ := bd1_s hf
                refine g_iald C 25 0 rfl rfl e173 dL_law_492 493 rfl ?_
                refine g_icmp_gt C dL_law_493 532 496 (by decide) rfl (fun c175 => ?_) (fun c175 => ?_)
                · have hf := ifp c175 hf
                  refine g_iconst C dL_law_532 533 rfl ic_0 ?_
                  exact absurd (Option.some.inj hf) (by decide)
                · have hf := ifn c175 hf
                  refine g_iload C dL_law_496 498 rfl 8 rfl ?_
                  refine g_aload_n C dL_law_498 499 rfl 1 rfl ?_
                  obtain ⟨x176, e177, hf⟩ := bd1_s hf
                  refine g_callV1 C (m_X1_noise hfl (g := g) (h1 := h1) (h2 := h2) e177) cf_X1_noise gL_law_X1_noise ⟨Nat.le_of_ble_eq_true rfl, Nat.le_of_ble_eq_true rfl⟩ (q0 := 0) (As := []) (rest := [.int l10_152]) (wl := []) (wr := wA cyI z14 n15 f16_153 ++ (wA cyI z18 n19 f20_154 ++ (wA cyI z22 5 f23_155 ++ (wA cyI z25 n26 f27_71 ++ wS cyI cyJ z h9 u_8)))) (c2 := cells + 264) (s2 := slots + 1759) rfl rfl rfl rfl rfl rfl (Nat.le_of_ble_eq_true rfl) rfl rfl ⟨(by show _ ≤ 600104; omega), (by show _ ≤ 7301314; omega)⟩ dL_law_499 502 rfl (ws2 := wC g h1 h2 ++ (wB cyI h1 b1_7 ++ (wB cyI h2 b2 ++ (wA cyI z14 n15 f16_153 ++ (wA cyI z18 n19 f20_154 ++ (wA cyI z22 5 f23_155 ++ (wA cyI z25 n26 f27_71 ++ wS cyI cyJ z h9 u_8))))))) rfl (st2 := [.int x176, .int l10_152]) rfl ?_
                  refine g_icmp_ne C dL_law_502 532 505 (by decide) rfl (fun c178 => ?_) (fun c178 => ?_)
                  · have hf := ifn c178 hf
                    refine g_iconst C dL_law_532 533 rfl ic_0 ?_
                    exact absurd (Option.some.inj hf) (by decide)
                  · have hf := ifp c178 hf
                    refine g_aload_n C dL_law_505 506 rfl 1 rfl ?_
                    obtain ⟨x179, e180, hf⟩ := bd1_s hf
                    refine g_callV1 C (m_X1_nextInLine hfl (g := g) (h1 := h1) (h2 := h2) e180) cf_X1_nextInLine gL_law_X1_nextInLine ⟨Nat.le_of_ble_eq_true rfl, Nat.le_of_ble_eq_true rfl⟩ (q0 := 0) (As := []) (rest := []) (wl := []) (wr := wA cyI z14 n15 f16_153 ++ (wA cyI z18 n19 f20_154 ++ (wA cyI z22 5 f23_155 ++ (wA cyI z25 n26 f27_71 ++ wS cyI cyJ z h9 u_8)))) (c2 := cells + 264) (s2 := slots + 1759) rfl rfl rfl rfl rfl rfl (Nat.le_of_ble_eq_true rfl) rfl rfl ⟨(by show _ ≤ 600104; omega), (by show _ ≤ 7301314; omega)⟩ dL_law_506 509 rfl (ws2 := wC g h1 h2 ++ (wB cyI h1 b1_7 ++ (wB cyI h2 b2 ++ (wA cyI z14 n15 f16_153 ++ (wA cyI z18 n19 f20_154 ++ (wA cyI z22 5 f23_155 ++ (wA cyI z25 n26 f27_71 ++ wS cyI cyJ z h9 u_8))))))) rfl (st2 := [.int x179]) rfl ?_
                    refine jo1_s (P := fun (j182 : Int32) => Gq p l e room_1 s m args below meth c D A 22 Q (wC g h1 h2 ++ (wB cyI h1 b1_7 ++ (wB cyI h2 b2 ++ (wA cyI z14 n15 f16_153 ++ (wA cyI z18 n19 f20_154 ++ (wA cyI z22 5 f23_155 ++ (wA cyI z25 n26 f27_71 ++ wS cyI cyJ z h9 u_8))))))) (cells + 264) (slots + 1759) 517 [(0, .ref sc.1), (1, .ref g), (2, .ref z), (3, .int l3), (5, .int x12), (6, .ref z14), (7, .ref z18), (8, .ref z22)] [.int j182]) hf (fun j182 hf => ?_) (fun K181 hK181 hf => ?_)
                    · refine g_aload C dL_law_517 519 rfl 7 rfl ?_
                      refine g_iconst C dL_law_519 520 rfl ic_0 ?_
                      obtain ⟨x184, e183, hf⟩ := bd1_s hf
                      refine g_iald C 25 0 rfl rfl e183 dL_law_520 521 rfl ?_
                      refine jo1_s (P := fun (j186 : Int32) => Gq p l e room_1 s m args below meth c D A 22 Q (wC g h1 h2 ++ (wB cyI h1 b1_7 ++ (wB cyI h2 b2 ++ (wA cyI z14 n15 f16_153 ++ (wA cyI z18 n19 f20_154 ++ (wA cyI z22 5 f23_155 ++ (wA cyI z25 n26 f27_71 ++ wS cyI cyJ z h9 u_8))))))) (cells + 264) (slots + 1759) 529 [(0, .ref sc.1), (1, .ref g), (2, .ref z), (3, .int l3), (5, .int x12), (6, .ref z14), (7, .ref z18)] [.int j186, .int j182]) hf (fun j186 hf => ?_) (fun K185 hK185 hf => ?_)
                      · refine g_icmp_eq C dL_law_529 534 532 (by decide) rfl (fun c187 => ?_) (fun c187 => ?_)
                        · have hf := ifp c187 hf
                          refine g_aload_n C dL_law_534 535 rfl 1 rfl ?_
                          obtain ⟨x188, e189, hf⟩ := bd1_s hf
                          refine g_callV1 C (m_X1_expired hfl (g := g) (h1 := h1) (h2 := h2) e189) cf_X1_expired gL_law_X1_expired ⟨Nat.le_of_ble_eq_true rfl, Nat.le_of_ble_eq_true rfl⟩ (q0 := 0) (As := []) (rest := []) (wl := []) (wr := wA cyI z14 n15 f16_153 ++ (wA cyI z18 n19 f20_154 ++ (wA cyI z22 5 f23_155 ++ (wA cyI z25 n26 f27_71 ++ wS cyI cyJ z h9 u_8)))) (c2 := cells + 264) (s2 := slots + 1759) rfl rfl rfl rfl rfl rfl (Nat.le_of_ble_eq_true rfl) rfl rfl ⟨(by show _ ≤ 600104; omega), (by show _ ≤ 7301314; omega)⟩ dL_law_535 538 rfl (ws2 := wC g h1 h2 ++ (wB cyI h1 b1_7 ++ (wB cyI h2 b2 ++ (wA cyI z14 n15 f16_153 ++ (wA cyI z18 n19 f20_154 ++ (wA cyI z22 5 f23_155 ++ (wA cyI z25 n26 f27_71 ++ wS cyI cyJ z h9 u_8))))))) rfl (st2 := [.int x188]) rfl ?_
                          refine g_istore C dL_law_538 540 rfl (by decide) (lv' := [(12, .int x188), (0, .ref sc.1), (1, .ref g), (2, .ref z), (3, .int l3), (5, .int x12), (6, .ref z14), (7, .ref z18)]) rfl ?_
                          refine g_aload_n C dL_law_540 541 rfl 2 rfl ?_
                          obtain ⟨x190, e191, hf⟩ := bd1_s hf
                          refine g_callV1 C (m_X1_paid hfl (g := g) (h1 := h1) (h2 := h2) e191) cf_X1_paid gL_law_X1_paid ⟨Nat.le_of_ble_eq_true rfl, Nat.le_of_ble_eq_true rfl⟩ (q0 := 0) (As := []) (rest := []) (wl := []) (wr := wA cyI z14 n15 f16_153 ++ (wA cyI z18 n19 f20_154 ++ (wA cyI z22 5 f23_155 ++ (wA cyI z25 n26 f27_71 ++ wS cyI cyJ z h9 u_8)))) (c2 := cells + 264) (s2 := slots + 1759) rfl rfl rfl rfl rfl rfl (Nat.le_of_ble_eq_true rfl) rfl rfl ⟨(by show _ ≤ 600104; omega), (by show _ ≤ 7301314; omega)⟩ dL_law_541 544 rfl (ws2 := wC g h1 h2 ++ (wB cyI h1 b1_7 ++ (wB cyI h2 b2 ++ (wA cyI z14 n15 f16_153 ++ (wA cyI z18 n19 f20_154 ++ (wA cyI z22 5 f23_155 ++ (wA cyI z25 n26 f27_71 ++ wS cyI cyJ z h9 u_8))))))) rfl (st2 := [.int x190]) rfl ?_
                          refine g_istore C dL_law_544 546 rfl (by decide) (lv' := [(13, .int x190), (12, .int x188), (0, .ref sc.1), (1, .ref g), (2, .ref z), (3, .int l3), (5, .int x12), (6, .ref z14), (7, .ref z18)]) rfl ?_
                          refine g_aload_n C dL_law_546 547 rfl 3 rfl ?_
                          obtain ⟨x192, e193, hf⟩ := bd1_s hf
                          refine g_callV1 C (m_X1_minute hfl (g := g) (h1 := h1) (h2 := h2) e193) cf_X1_minute gL_law_X1_minute ⟨Nat.le_of_ble_eq_true rfl, Nat.le_of_ble_eq_true rfl⟩ (q0 := 0) (As := []) (rest := []) (wl := []) (wr := wA cyI z14 n15 f16_153 ++ (wA cyI z18 n19 f20_154 ++ (wA cyI z22 5 f23_155 ++ (wA cyI z25 n26 f27_71 ++ wS cyI cyJ z h9 u_8)))) (c2 := cells + 264) (s2 := slots + 1759) rfl rfl rfl rfl rfl rfl (Nat.le_of_ble_eq_true rfl) rfl rfl ⟨(by show _ ≤ 600104; omega), (by show _ ≤ 7301314; omega)⟩ dL_law_547 550 rfl (ws2 := wC g h1 h2 ++ (wB cyI h1 b1_7 ++ (wB cyI h2 b2 ++ (wA cyI z14 n15 f16_153 ++ (wA cyI z18 n19 f20_154 ++ (wA cyI z22 5 f23_155 ++ (wA cyI z25 n26 f27_71 ++ wS cyI cyJ z h9 u_8))))))) rfl (st2 := [.int x192]) rfl ?_
                          refine g_istore C dL_law_550 552 rfl (by decide) (lv' := [(14, .int x192), (13, .int x190), (12, .int x188), (0, .ref sc.1), (1, .ref g), (2, .ref z), (3, .int l3), (5, .int x12), (6, .ref z14), (7, .ref z18)]) rfl ?_
                          refine g_aload_n C dL_law_552 553 rfl 4 rfl ?_
                          refine g_iconst C dL_law_553 554 rfl ic_1 ?_
                          obtain ⟨x194, b1_195, e196, hf⟩ := bz2_s hf
                          refine g_callV1 C (m_X1_pass_r hfl (g := g) (h1 := h1) (h2 := h2) e196) cf_X1_pass gL_law_X1_pass ⟨Nat.le_of_ble_eq_true rfl, Nat.le_of_ble_eq_true rfl⟩ (q0 := 0) (As := [.int 1]) (rest := []) (wl := []) (wr := wA cyI z14 n15 f16_153 ++ (wA cyI z18 n19 f20_154 ++ (wA cyI z22 5 f23_155 ++ (wA cyI z25 n26 f27_71 ++ wS cyI cyJ z h9 u_8)))) (c2 := cells + 265) (s2 := slots + 1765) rfl rfl rfl rfl rfl rfl (Nat.le_of_ble_eq_true rfl) rfl rfl ⟨(by show _ ≤ 600104; omega), (by show _ ≤ 7301314; omega)⟩ dL_law_554 557 rfl (ws2 := wC g h1 h2 ++ (wB cyI h1 b1_195 ++ (wB cyI h2 b2 ++ (wA cyI z14 n15 f16_153 ++ (wA cyI z18 n19 f20_154 ++ (wA cyI z22 5 f23_155 ++ (wA cyI z25 n26 f27_71 ++ wS cyI cyJ z h9 u_8))))))) rfl (st2 := [.int x194]) rfl ?_
                          refine g_istore C dL_law_557 559 rfl (by decide) (lv' := [(15, .int x194), (14, .int x192), (13, .int x190), (12, .int x188), (0, .ref sc.1), (1, .ref g), (2, .ref z), (3, .int l3), (5, .int x12), (6, .ref z14), (7, .ref z18)]) rfl ?_
                          refine g_aload_n C dL_law_559 560 rfl 6 rfl ?_
                          obtain ⟨u_198, e199, hf⟩ := bd1_s hf
                          refine g_callV1 C (m_X2_pass hfl (z := z) (h := h9) e199) cf_X2_pass gL_law_X2_pass ⟨Nat.le_of_ble_eq_true rfl, Nat.le_of_ble_eq_true rfl⟩ (q0 := 0) (As := []) (rest := []) (wl := wC g h1 h2 ++ (wB cyI h1 b1_195 ++ (wB cyI h2 b2 ++ (wA cyI z14 n15 f16_153 ++ (wA cyI z18 n19 f20_154 ++ (wA cyI z22 5 f23_155 ++ wA cyI z25 n26 f27_71)))))) (wr := []) (c2 := cells + 266) (s2 := slots + 1773) rfl rfl rfl (by rw [List.append_nil] <;> rfl) rfl rfl (Nat.le_of_ble_eq_true rfl) rfl rfl ⟨(by show _ ≤ 600104; omega), (by show _ ≤ 7301314; omega)⟩ dL_law_560 563 rfl (ws2 := wC g h1 h2 ++ (wB cyI h1 b1_195 ++ (wB cyI h2 b2 ++ (wA cyI z14 n15 f16_153 ++ (wA cyI z18 n19 f20_154 ++ (wA cyI z22 5 f23_155 ++ (wA cyI z25 n26 f27_71 ++ wS cyI cyJ z h9 u_198))))))) (by rw [List.append_nil] <;> rfl) (st2 := []) rfl ?_
                          refine g_iconst C dL_law_563 564 rfl ic_0 ?_
                          refine g_istore C dL_law_564 566 rfl (by decide) (lv' := [(16, .int 0), (15, .int x194), (14, .int x192), (13, .int x190), (12, .int x188), (0, .ref sc.1), (1, .ref g), (2, .ref z), (3, .int l3), (5, .int x12), (6, .ref z14), (7, .ref z18)]) rfl ?_
                          refine g_iconst C dL_law_566 567 rfl ic_0 ?_
                          refine g_istore C dL_law_567 569 rfl (by decide) (lv' := [(17, .int 0), (16, .int 0), (15, .int x194), (14, .int x192), (13, .int x190), (12, .int x188), (0, .ref sc.1), (1, .ref g), (2, .ref z), (3, .int l3), (5, .int x12), (6, .ref z14), (7, .ref z18)]) rfl ?_
                          refine g_iconst C dL_law_569 570 rfl ic_0 ?_
                          refine g_istore C dL_law_570 572 rfl (by decide) (lv' := [(18, .int 0), (17, .int 0), (16, .int 0), (15, .int x194), (14, .int x192), (13, .int x190), (12, .int x188), (0, .ref sc.1), (1, .ref g), (2, .ref z), (3, .int l3), (5, .int x12), (6, .ref z14), (7, .ref z18)]) rfl ?_
                          refine g_iconst C dL_law_572 573 rfl ic_0 ?_
                          refine g_istore C dL_law_573 575 rfl (by decide) (lv' := [(19, .int 0), (18, .int 0), (17, .int 0), (16, .int 0), (15, .int x194), (14, .int x192), (13, .int x190), (12, .int x188), (0, .ref sc.1), (1, .ref g), (2, .ref z), (3, .int l3), (5, .int x12), (6, .ref z14), (7, .ref z18)]) rfl ?_
                          refine g_lv [8, 9, 10, 11, 12, 13, 14, 7, 6, 5, 4, 3, 2, 1, 0] (lv' := [(0, .ref sc.1), (1, .ref g), (2, .ref z), (3, .int l3), (5, .int x12), (6, .ref z14), (7, .ref z18), (12, .int x188), (13, .int x190), (14, .int x192), (15, .int x194), (16, .int 0), (17, .int 0), (18, .int 0), (19, .int 0)]) rfl ?_
                          refine L575 n15 n19 n26 l3 x12 x188 x190 x192 x194 f16_153 f20_154 f23_155 f27_71 h9 z14 z18 z22 z25 (cells + 370) (slots + 2397) (by omega) (by omega) _ (fun l16_281 l17_282 l18_283 hf => ?_) 25 0 0 0 0 (cells + 266) (slots + 1773) (by omega) (by omega) hf
                          refine g_iload C dL_law_854 856 rfl 7 rfl ?_
                          refine g_iload C dL_law_856 858 rfl 8 rfl ?_
                          refine g_icmp_ne C dL_law_858 896 861 (by decide) rfl (fun c284 => ?_) (fun c284 => ?_)
                          · have hf := ifn c284 hf
                            refine g_iconst C dL_law_896 897 rfl ic_0 ?_
                            exact absurd (Option.some.inj hf) (by decide)
                          · have hf := ifp c284 hf
                            refine g_aload_n C dL_law_861 862 rfl 1 rfl ?_
                            obtain ⟨x285, e286, hf⟩ := bd1_s hf
                            refine g_callV1 C (m_X1_expired hfl (g := g) (h1 := h1) (h2 := h2) e286) cf_X1_expired gL_law_X1_expired ⟨Nat.le_of_ble_eq_true rfl, Nat.le_of_ble_eq_true rfl⟩ (q0 := 0) (As := []) (rest := []) (wl := []) (wr := wA cyI z14 n15 f16_153 ++ (wA cyI z18 n19 f20_154 ++ (wA cyI z22 5 f23_155 ++ (wA cyI z25 n26 f27_71 ++ wS cyI cyJ z h9 u_198)))) (c2 := cells + 370) (s2 := slots + 2397) rfl rfl rfl rfl rfl rfl (Nat.le_of_ble_eq_true rfl) rfl rfl ⟨(by show _ ≤ 600104; omega), (by show _ ≤ 7301314; omega)⟩ dL_law_862 865 rfl (ws2 := wC g h1 h2 ++ (wB cyI h1 b1_195 ++ (wB cyI h2 b2 ++ (wA cyI z14 n15 f16_153 ++ (wA cyI z18 n19 f20_154 ++ (wA cyI z22 5 f23_155 ++ (wA cyI z25 n26 f27_71 ++ wS cyI cyJ z h9 u_198))))))) rfl (st2 := [.int x285]) rfl ?_
                            refine g_iload C dL_law_865 867 rfl 4 rfl ?_
                            refine g_iload C dL_law_867 869 rfl 9 rfl ?_
                            refine g_iadd C dL_law_869 870 rfl ?_
                            refine g_icmp_ne C dL_law_870 896 873 (by decide) rfl (fun c287 => ?_) (fun c287 => ?_)
                            · have hf := ifn c287 hf
                              refine g_iconst C dL_law_896 897 rfl ic_0 ?_
                              exact absurd (Option.some.inj hf) (by decide)
                            · have hf := ifp c287 hf
                              refine g_aload_n C dL_law_873 874 rfl 1 rfl ?_
                              obtain ⟨x288, e289, hf⟩ := bd1_s hf
                              refine g_callV1 C (m_X1_paid hfl (g := g) (h1 := h1) (h2 := h2) e289) cf_X1_paid gL_law_X1_paid ⟨Nat.le_of_ble_eq_true rfl, Nat.le_of_ble_eq_true rfl⟩ (q0 := 0) (As := []) (rest := []) (wl := []) (wr := wA cyI z14 n15 f16_153 ++ (wA cyI z18 n19 f20_154 ++ (wA cyI z22 5 f23_155 ++ (wA cyI z25 n26 f27_71 ++ wS cyI cyJ z h9 u_198)))) (c2 := cells + 370) (s2 := slots + 2397) rfl rfl rfl rfl rfl rfl (Nat.le_of_ble_eq_true rfl) rfl rfl ⟨(by show _ ≤ 600104; omega), (by show _ ≤ 7301314; omega)⟩ dL_law_874 877 rfl (ws2 := wC g h1 h2 ++ (wB cyI h1 b1_195 ++ (wB cyI h2 b2 ++ (wA cyI z14 n15 f16_153 ++ (wA cyI z18 n19 f20_154 ++ (wA cyI z22 5 f23_155 ++ (wA cyI z25 n26 f27_71 ++ wS cyI cyJ z h9 u_198))))))) rfl (st2 := [.int x288]) rfl ?_
                              refine g_iload C dL_law_877 879 rfl 5 rfl ?_
                              refine g_iload C dL_law_879 881 rfl 10 rfl ?_
                              refine g_iadd C dL_law_881 882 rfl ?_
                              refine g_icmp_ne C dL_law_882 896 885 (by decide) rfl (fun c290 => ?_) (fun c290 => ?_)
                              · have hf := ifn c290 hf
                                refine g_iconst C dL_law_896 897 rfl ic_0 ?_
                                exact absurd (Option.some.inj hf) (by decide)
                              · have hf := ifp c290 hf
                                refine g_aload_n C dL_law_885 886 rfl 1 rfl ?_
                                obtain ⟨x291, e292, hf⟩ := bd1_s hf
                                refine g_callV1 C (m_X1_minute hfl (g := g) (h1 := h1) (h2 := h2) e292) cf_X1_minute gL_law_X1_minute ⟨Nat.le_of_ble_eq_true rfl, Nat.le_of_ble_eq_true rfl⟩ (q0 := 0) (As := []) (rest := []) (wl := []) (wr := wA cyI z14 n15 f16_153 ++ (wA cyI z18 n19 f20_154 ++ (wA cyI z22 5 f23_155 ++ (wA cyI z25 n26 f27_71 ++ wS cyI cyJ z h9 u_198)))) (c2 := cells + 370) (s2 := slots + 2397) rfl rfl rfl rfl rfl rfl (Nat.le_of_ble_eq_true rfl) rfl rfl ⟨(by show _ ≤ 600104; omega), (by show _ ≤ 7301314; omega)⟩ dL_law_886 889 rfl (ws2 := wC g h1 h2 ++ (wB cyI h1 b1_195 ++ (wB cyI h2 b2 ++ (wA cyI z14 n15 f16_153 ++ (wA cyI z18 n19 f20_154 ++ (wA cyI z22 5 f23_155 ++ (wA cyI z25 n26 f27_71 ++ wS cyI cyJ z h9 u_198))))))) rfl (st2 := [.int x291]) rfl ?_
                                refine g_iload C dL_law_889 891 rfl 6 rfl ?_
                                refine g_iconst C dL_law_891 892 rfl ic_1 ?_
                                refine g_iadd C dL_law_892 893 rfl ?_
                                refine g_icmp_eq C dL_law_893 898 896 (by decide) rfl (fun c293 => ?_) (fun c293 => ?_)
                                · have hf := ifp c293 hf
                                  refine g_iinc C dL_law_898 901 rfl 3 rfl (ii_1 _) (by decide) (lv' := [(3, .int (l3 + 1)), (0, .ref sc.1), (1, .ref g), (2, .ref z), (12, .int x188), (13, .int x190), (14, .int x192), (15, .int x194), (16, .int l16_281), (17, .int l17_282), (18, .int l18_283)]) rfl ?_
                                  refine g_goto C dL_law_901 22 (by decide) ?_
                                  refine g_perm (ws' := wC g h1 h2 ++ (wB cyI h1 b1_195 ++ (wB cyI h2 b2 ++ (wS cyI cyJ z h9 u_198 ++ (wA cyI z14 n15 f16_153 ++ (wA cyI z18 n19 f20_154 ++ (wA cyI z22 5 f23_155 ++ wA cyI z25 n26 f27_71))))))) (wl := wC g h1 h2 ++ (wB cyI h1 b1_195 ++ wB cyI h2 b2)) (w1 := wA cyI z14 n15 f16_153 ++ (wA cyI z18 n19 f20_154 ++ (wA cyI z22 5 f23_155 ++ wA cyI z25 n26 f27_71))) (w2 := wS cyI cyJ z h9 u_198) rfl rfl ?_
                                  refine g_left (ws' := wC g h1 h2 ++ (wB cyI h1 b1_195 ++ (wB cyI h2 b2 ++ wS cyI cyJ z h9 u_198))) (wr := wA cyI z14 n15 f16_153 ++ (wA cyI z18 n19 f20_154 ++ (wA cyI z22 5 f23_155 ++ wA cyI z25 n26 f27_71))) rfl ?_
                                  refine g_lv [1, 2, 3, 0] (lv' := [(0, .ref sc.1), (1, .ref g), (2, .ref z), (3, .int (l3 + 1))]) rfl ?_
                                  exact ih (l3 + 1) b1_195 u_198 h9 (cells + 370) (slots + 2397) (by omega) (by omega) hf
                                · have hf := ifn c293 hf
                                  refine g_iconst C dL_law_896 897 rfl ic_0 ?_
                                  exact absurd (Option.some.inj hf) (by decide)
                        · have hf := ifn c187 hf
                          refine g_iconst C dL_law_532 533 rfl ic_0 ?_
                          exact absurd (Option.some.inj hf) (by decide)
                      · refine g_if_ne C dL_law_521 528 524 (by decide) rfl (fun c294 => ?_) (fun c294 => ?_)
                        · have hf := ifn c294 hf
                          refine g_iconst C dL_law_528 529 rfl ic_0 ?_
                          refine g_lv [0, 1, 2, 3, 4, 5, 6] (lv' := [(0, .ref sc.1), (1, .ref g), (2, .ref z), (3, .int l3), (5, .int x12), (6, .ref z14), (7, .ref z18)]) rfl ?_
                          exact hK185 0 hf
                        · have hf := ifp c294 hf
                          refine g_iconst C dL_law_524 525 rfl ic_1 ?_
                          refine g_goto C dL_law_525 529 (by decide) ?_
                          refine g_lv [0, 1, 2, 3, 4, 5, 6] (lv' := [(0, .ref sc.1), (1, .ref g), (2, .ref z), (3, .int l3), (5, .int x12), (6, .ref z14), (7, .ref z18)]) rfl ?_
                          exact hK185 1 hf
                    · refine g_if_ge C dL_law_509 516 512 (by decide) rfl (fun c295 => ?_) (fun c295 => ?_)
                      · have hf := ifp c295 hf
                        refine g_iconst C dL_law_516 517 rfl ic_0 ?_
                        refine g_lv [0, 1, 2, 3, 4, 5, 6, 7] (lv' := [(0, .ref sc.1), (1, .ref g), (2, .ref z), (3, .int l3), (5, .int x12), (6, .ref z14), (7, .ref z18), (8, .ref z22)]) rfl ?_
                        exact hK181 0 hf
                      · have hf := ifn c295 hf
                        refine g_iconst C dL_law_512 513 rfl ic_1 ?_
                        refine g_goto C dL_law_513 517 (by decide) ?_
                        refine g_lv [0, 1, 2, 3, 4, 5, 6, 7] (lv' := [(0, .ref sc.1), (1, .ref g), (2, .ref z), (3, .int l3), (5, .int x12), (6, .ref z14), (7, .ref z18), (8, .ref z22)]) rfl ?_
                        exact hK181 1 hf
        · have hf := ifp c11 hf
          refine g_iconst C dL_law_61 62 rfl ic_0 ?_
          exact absurd (Option.some.inj hf) (by decide)
  unfold L_law_F at hf
  refine g_iconst C dL_law_20 21 rfl ic_0 ?_
  refine g_istore_n C dL_law_21 22 rfl (by decide) (lv' := [(3, .int 0), (2, .ref z), (1, .ref g), (0, .ref sc.1)]) rfl ?_
  refine g_lv [3, 2, 1, 0] (lv' := [(0, .ref sc.1), (1, .ref g), (2, .ref z), (3, .int 0)]) rfl ?_
  exact L22 41 0 b1 u h 3265 26314 (Nat.le_of_ble_eq_true rfl) (Nat.le_of_ble_eq_true rfl) hf
