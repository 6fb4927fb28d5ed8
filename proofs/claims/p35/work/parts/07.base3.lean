/-! BASE 3: constructors, new objects, the script, the law's switch -/
section GC
variable {ss : Ev} {p : Program} {l : Launch} {e : Env} {R : Room} {s : State} {m : MethodId} {args : Array Value} {below : List Frame} {meth : Method} {c : Code} {Q : State → Prop}
variable {D : va_G} {A : Nat → Prop} {tys : List (ClassId × FieldType)} {Ts : List Cond} {own : String} {cc : ByteArray} {nL : Nat} {tb : List ExceptionTableEntry} {ws ws' : va_W} {cells slots pc : Nat} {lv : List (Nat × Value)} {st : List Value}
abbrev zS : S2 := fun _ _ => 0
theorem met_of {y : MethodName} {ws : List Cond} {rm : Room} {Pc : Array Value → State → Prop} {Qc : Array Value → State → Outcome → State → Prop} {XC : String → State → State → Prop} {mc ms : Nat} {free : Addr → Prop} (hx : ∀ E st t, ¬ XC E st t) (h : vx_Met l y ws rm Pc Qc XC mc ms free) : Met l y ws rm Pc Qc mc ms free := by
  intro p e ha h1 h2 s m args below hf happ hP hK
  obtain ⟨n, o, a1, a2, a3, hq⟩ := h p e ha h1 h2 s m args below hf happ hP hK
  refine ⟨n, o, a1, a2, a3, ?_⟩
  rcases hq with hq | ⟨q, -, E, ce, L, hx', -⟩
  · exact hq
  · exact absurd hx' (hx _ _ _)
theorem g_objinit (C : Cx ss p l s m args meth c cc nL Ts own D tys A tb) {i a : Nat} (h1 : (Cond.methodLink own i Lib.objectInit).before args s = true) (h2 : (Cond.instanceMethod Lib.objectInit).before args s = true) (h3 : (Cond.code Lib.objectInit ⟨#[0xb1]⟩ 1 none).before args s = true) (hf : 1 ≤ R.frames) (hlo : (st.map fun v => v.category).sum + 12 ≤ R.locals) (d : decode cc pc = .ok (.invokespecial i, 3)) (q : Nat) (hq : pc + 3 = q) (kk : Gq p l e R s m args below meth c D A nL Q ws cells slots q lv st) : Gq p l e R s m args below meth c D A nL Q ws cells slots pc lv (.ref a :: st) := by
  subst hq
  intro H locs ls hP hD hS hl
  refine W.objInit C.1 C.2.1 C.2.2.2.1 h1 h2 h3 (a := a) (rest := st) rfl (by rw [C.2.2.1]; exact hl.1) rfl d hf (by show 2 * 0 + _ + 12 ≤ _; omega) ?_
  exact kk H locs ls hP hD hS hl
theorem g_putF (C : Cx ss p l s m args meth c cc nL Ts own D tys A tb) {ref Cn : String} {T : u_T} {N ci i a z : Nat} {fs : List Value} {ty : FieldType} (hin : ∀ w ∈ u_ws Cn T N, w ∈ Ts) (ty0 : Nat → FieldType) (hty : ∀ k, k < N → parseFieldDescriptor (T k).2.2.1 = some (ty0 k)) (hnm : ∀ a, a < N → ∀ b, b < N → a ≠ b → (T a).2.1 ≠ (T b).2.1) (q0 : Nat) (he : ws[q0]? = some (a, .inr (ci, fs))) (hc : vwCl[ci]? = some (Cn, T, N)) (k : Nat) (hk : k < N) (hlink : (Cond.fieldLink own i ref (T k).2.1 (T k).2.2.1).before args s = true) (hsame : (T k).1 = ref) (hfl : (T k).2.2.2 = true) (hin2 : meth.name = "<init>") (hdecl : (T k).1 = own) (hd : parseFieldDescriptor (T k).2.2.1 = some ty) (hn : narrow ty (.ref z) = .ref z) (hfit : fits ty (.ref z) = true) (hl0 : k < fs.length) (hw : ws.set q0 (a, .inr (ci, fs.set k (.ref z))) = ws') (d : decode cc pc = .ok (.putfield i, 3)) (q : Nat) (hq : pc + 3 = q)
    (kk : Gq p l e R s m args below meth c D A nL Q ws' cells slots q lv st) : Gq p l e R s m args below meth c D A nL Q ws cells slots pc lv (.ref z :: .ref a :: st) := by
  subst hq; subst hw
  exact fun H locs ls hP hD hS hl => va_putF (v := .ref z) (ty := ty) C.1 C.2.1 C.2.2.2.2.1 hin ty0 hty hnm C.2.2.2.1 C.2.2.2.2.2.1 hP hD hS q0 he hc k hk hlink (fun x h => by rw [← hsame]; exact h) hfl hin2 hdecl hd hn hfit hl0 d (fun H locs hP hD hS => kk H locs ls hP hD hS hl)
theorem g_new (C : Cx ss p l s m args meth c cc nL Ts own D tys A tb) {Cn : String} {T : u_T} {N ci i : Nat} {fs : List Value} (hin : ∀ w ∈ u_ws Cn T N, w ∈ Ts) (ty0 : Nat → FieldType) (hty : ∀ k, k < N → parseFieldDescriptor (T k).2.2.1 = some (ty0 k)) (h1 : (Cond.classLink own i Cn).before args s = true) (h2 : (Cond.instantiable Cn N).before args s = true) (h3 : (Cond.initialized Cn).before args s = true) (hc : vwCl[ci]? = some (Cn, T, N)) (hfs : ∀ j, j < N → defaultValue (ty0 j) = vp_V fs j) {c2 s2 : Nat} (hc2 : cells + 1 = c2) (hs2 : slots + N = s2) (hcells : c2 ≤ R.cells) (hslots : s2 ≤ R.slots) (d : decode cc pc = .ok (.new i, 3)) (q : Nat) (hq : pc + 3 = q)
    (kk : ∀ z : Nat, Gq p l e R s m args below meth c D A nL Q (ws ++ [(z, .inr (ci, fs))]) c2 s2 q lv (.ref z :: st)) : Gq p l e R s m args below meth c D A nL Q ws cells slots pc lv st := by
  subst hq; subst hc2; subst hs2
  exact fun H locs ls hP hD hS hl => va_new C.1 C.2.1 C.2.2.2.2.1 hin ty0 hty C.2.2.2.1 h1 h2 h3 C.2.2.2.2.2.1 hP hD hS C.2.2.2.2.2.2.1 hc hfs hcells hslots d (fun z H1 hP hD hS => kk z H1 locs ls hP hD hS hl)
theorem vx_of_va {H : Heap} {locs : List Loc} {mc ms : Nat} {g : JFrame} {rest : List Value} {Qa : State → Outcome → State → Prop} {XC : String → State → State → Prop} {free : Addr → Prop} (h : va_Run p l e R s m args below meth c H locs cells slots mc ms g rest Qa free) : vx_Run p l e R s m args below meth c H locs cells slots mc ms g rest Qa XC free := fun T hT X => Or.inl (h T hT X)
/-- a constructor, called by its class's own link -/
theorem g_callI (C : Cx ss p l s m args meth c cc nL Ts own D tys A tb) {y : MethodName} {w0 : List Cond} {rm : Room} {bytes : ByteArray} {maxL mc ms i b : Nat} {Cn : String} {rest : List Value} {W0 wl wr : va_W} {Rr : Oc → Prop} {c2 s2 : Nat}
    (hct : Ct ss l y w0 rm D tys [.ref b] W0 Rr mc ms) (hno : ∀ n, ¬ Rr (.inl n)) (cf : CF y w0 rm bytes maxL none 0 mc ms Cn) (hg : GoodIn Ts w0) (hini : (Cond.initialized y.cls).before args s = true) (hl0 : (Cond.methodLink own i y).before args s = true) (hin : (Cond.instanceMethod y).before args s = true) (hy1 : y.name = "<init>") (hR : rm.frames + 1 ≤ R.frames ∧ 8 + (maxL + 11) + rm.locals ≤ R.locals)
    (hws : ws = wl ++ (W0 ++ wr)) (hst : st = .ref b :: rest) (hrest : (rest.map fun v => v.category).sum ≤ 8) (hc2 : cells + mc = c2) (hs2 : slots + ms = s2) (hf : c2 ≤ R.cells ∧ s2 ≤ R.slots) (d : decode cc pc = .ok (.invokespecial i, 3)) (q : Nat) (hq : pc + 3 = q)
    (kk : ∀ rv W1, Rr (.inr (rv, W1)) → Gq p l e R s m args below meth c D A nL Q (wl ++ (W1 ++ wr)) c2 s2 q lv (rv.toList ++ rest)) : Gq p l e R s m args below meth c D A nL Q ws cells slots pc lv st := by
  subst hws
  intro H locs ls hP hD hS hl
  obtain ⟨⟨ws', hw⟩, hrc, hrs, hy, hy1', hy2, hdesc⟩ := cf
  have hP0 : va_P D vwCl W0 H := (vp_app.mp (vp_app.mp hP).2).1
  have hD0 : va_D A W0 := (vd_app.mp (vd_app.mp hD).2.1).1
  have hF := ct_free C hD0 hS
  have hM := met_of (fun E st t h => by obtain ⟨⟨n, h1, -⟩, -⟩ := h; exact hno n h1) (hct H.size)
  have cw := cwI (R := R) (s := s) (args := args) (own := own) (index := i) (y := y) (maxL := maxL) (bytes := bytes) (rm := rm) (mc := mc) (ms := ms) 0 C.2.2.2.2.1 hg hw hrc hrs hini hl0 hin hy1 ⟨hy1', hy2, hdesc⟩ hR
  exact g_run C hP hD hS hl hc2 hs2 hq (vx_of_va (va_runI (As := []) (rest := rest) ⟨C.1, C.2.1, C.2.2.1, C.2.2.2.1, C.2.2.2.2.1⟩ hM cw ⟨ct_blind, fun U hU hW => ct_pre C hP0 hD0 hS hF U hU hW⟩ rfl rfl hl.1 hst (lv_room hrest) d ⟨by omega, by omega⟩)) (fun n h => absurd h (hno n)) kk
/-- a private constructor of a nest mate -/
theorem g_callIN (C : Cx ss p l s m args meth c cc nL Ts own D tys A tb) {y : MethodName} {w0 : List Cond} {rm : Room} {bytes : ByteArray} {maxL mc ms i b : Nat} {Cn host : String} {rest : List Value} {W0 wl wr : va_W} {Rr : Oc → Prop} {c2 s2 : Nat}
    (hct : Ct ss l y w0 rm D tys [.ref b] W0 Rr mc ms) (hno : ∀ n, ¬ Rr (.inl n)) (cf : CF y w0 rm bytes maxL none 0 mc ms Cn) (hg : GoodIn Ts w0) (hini : (Cond.initialized y.cls).before args s = true) (hl0 : Cond.methodLinkNest own i y host ∈ ev_w) (hin : (Cond.instanceMethod y).before args s = true) (hy1 : y.name = "<init>") (hR : rm.frames + 1 ≤ R.frames ∧ 8 + (maxL + 11) + rm.locals ≤ R.locals)
    (hws : ws = wl ++ (W0 ++ wr)) (hst : st = .ref b :: rest) (hrest : (rest.map fun v => v.category).sum ≤ 8) (hc2 : cells + mc = c2) (hs2 : slots + ms = s2) (hf : c2 ≤ R.cells ∧ s2 ≤ R.slots) (d : decode cc pc = .ok (.invokespecial i, 3)) (q : Nat) (hq : pc + 3 = q)
    (kk : ∀ rv W1, Rr (.inr (rv, W1)) → Gq p l e R s m args below meth c D A nL Q (wl ++ (W1 ++ wr)) c2 s2 q lv (rv.toList ++ rest)) : Gq p l e R s m args below meth c D A nL Q ws cells slots pc lv st := by
  subst hws
  intro H locs ls hP hD hS hl
  obtain ⟨⟨ws', hw⟩, hrc, hrs, hy, hy1', hy2, hdesc⟩ := cf
  have hP0 : va_P D vwCl W0 H := (vp_app.mp (vp_app.mp hP).2).1
  have hD0 : va_D A W0 := (vd_app.mp (vd_app.mp hD).2.1).1
  have hF := ct_free C hD0 hS
  have hM := met_of (fun E st t h => by obtain ⟨⟨n, h1, -⟩, -⟩ := h; exact hno n h1) (hct H.size)
  have cw := va_cnB (R := R) (s := s) (args := args) (own := own) (index := i) (y := y) (host := host) (ret := none) (maxL := maxL) (bytes := bytes) (rm := rm) (mc := mc) (ms := ms) 0 C.2.2.2.2.1 hg hw hrc hrs (C.2.2.2.2.2.2.2.2.1.2.2.1 _ hl0) hini ⟨hy1', hy2, hdesc⟩ hR
  exact g_run C hP hD hS hl hc2 hs2 hq (vx_of_va (va_runIN (As := []) (rest := rest) ⟨C.1, C.2.1, C.2.2.1, C.2.2.2.1, C.2.2.2.2.1⟩ hM ⟨cw, hy1, hin⟩ ⟨ct_blind, fun U hU hW => ct_pre C hP0 hD0 hS hF U hU hW⟩ rfl rfl hl.1 hst (lv_room hrest) d ⟨by omega, by omega⟩)) (fun n h => absurd h (hno n)) kk
theorem g_sld (C : Cx ss p l s m args meth c cc nL Ts own D tys A tb) {i x : Int32} (hld : ldA ss.2.2.2 ss.2.2.1 i = some x) (d : decode cc pc = .ok (.iaload, 1)) (q : Nat) (hq : pc + 1 = q) (kk : Gq p l e R s m args below meth c D A nL Q ws cells slots q lv (.int x :: st)) : Gq p l e R s m args below meth c D A nL Q ws cells slots pc lv (.int i :: .ref ss.2.1 :: st) := by
  subst hq
  obtain ⟨hin, rfl⟩ := ldA_s hld
  obtain ⟨hX, hbl, hbA⟩ := C.2.2.2.2.2.2.2.2.1.2.2.2.2.2.2
  exact fun H locs ls hP hD hS hl => va_sld C.1 C.2.1 hX hbl hbA hS hin d (kk H locs ls hP hD hS hl)
theorem g_slen (C : Cx ss p l s m args meth c cc nL Ts own D tys A tb) (d : decode cc pc = .ok (.arraylength, 1)) (q : Nat) (hq : pc + 1 = q) (kk : Gq p l e R s m args below meth c D A nL Q ws cells slots q lv (.int (nI ss.2.2.1) :: st)) : Gq p l e R s m args below meth c D A nL Q ws cells slots pc lv (.ref ss.2.1 :: st) := by
  subst hq
  obtain ⟨hX, hbl, hbA⟩ := C.2.2.2.2.2.2.2.2.1.2.2.2.2.2.2
  exact fun H locs ls hP hD hS hl => va_slen C.1 C.2.1 hX hbl hbA hS d (kk H locs ls hP hD hS hl)
theorem g_tab (C : Cx ss p l s m args meth c cc nL Ts own D tys A tb) {dflt lo hi : Int} {offs : Array Int} {len : Nat} {x y : Int32} {off : Int} (hxy : x = y) (d : decode cc pc = .ok (.tableswitch dflt lo hi offs, len)) (h1 : ¬ y.toInt < lo) (h2 : ¬ hi < y.toInt) (ho : offs[(y.toInt - lo).toNat]? = some off) (q : Nat) (hq : (pc : Int) + off = (q : Int)) (kk : Gq p l e R s m args below meth c D A nL Q ws cells slots q lv st) : Gq p l e R s m args below meth c D A nL Q ws cells slots pc lv (.int x :: st) := by
  subst hxy
  exact fun H locs ls hP hD hS hl => lv_tableIn C.1 C.2.1 d h1 h2 ho hq (kk H locs ls hP hD hS hl)
end GC
theorem g_ws {p : Program} {l : Launch} {e : Env} {R : Room} {s : State} {m : MethodId} {args : Array Value} {below : List Frame} {meth : Method} {c : Code} {Q : State → Prop} {D : va_G} {A : Nat → Prop} {nL : Nat} {ws ws' : va_W} {cells slots pc : Nat} {lv : List (Nat × Value)} {st : List Value} (h : ws = ws') (kk : Gq p l e R s m args below meth c D A nL Q ws' cells slots pc lv st) : Gq p l e R s m args below meth c D A nL Q ws cells slots pc lv st := h ▸ kk
theorem g_perm {p : Program} {l : Launch} {e : Env} {R : Room} {s : State} {m : MethodId} {args : Array Value} {below : List Frame} {meth : Method} {c : Code} {Q : State → Prop} {D : va_G} {A : Nat → Prop} {nL : Nat} {ws ws' wl w1 w2 : va_W} {cells slots pc : Nat} {lv : List (Nat × Value)} {st : List Value} (h : ws = wl ++ (w1 ++ w2)) (h' : wl ++ (w2 ++ w1) = ws') (kk : Gq p l e R s m args below meth c D A nL Q ws' cells slots pc lv st) : Gq p l e R s m args below meth c D A nL Q ws cells slots pc lv st := by
  subst h; subst h'
  intro H locs ls hP hD hS hl
  refine kk H locs ls ?_ ?_ hS hl
  · simp only [vp_app] at hP ⊢
    exact ⟨hP.1, hP.2.2, hP.2.1⟩
  · simp only [vd_app] at hD ⊢
    obtain ⟨a1, ⟨a2, a3, a4⟩, a5⟩ := hD
    refine ⟨a1, ⟨a3, a2, fun p hp q hq e => a4 q hq p hp e.symm⟩, fun p hp q hq => a5 p hp q ?_⟩
    rcases List.mem_append.mp hq with h | h
    · exact List.mem_append_right _ h
    · exact List.mem_append_left _ h
