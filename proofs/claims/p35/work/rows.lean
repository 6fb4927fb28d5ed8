section
-- ===== PART A: goes FIRST, ahead of the names: the tables' words, and 'selects' of the private methods out of them =====
/-- a private method of a class that the tables say can be made, by its rows of tables_1 -/
def lw_okq (q : MethodName × Nat) : Prop := (q.1.cls ≠ "java/lang/invoke/MethodHandle" ∧ q.1.cls ≠ "java/lang/invoke/VarHandle") ∧ Cond.instantiable q.1.cls q.2 ∈ tables_1 ∧ Cond.privateMethod q.1 ∈ tables_1 ∧ Cond.instanceMethod q.1 ∈ tables_1
theorem lw_p0 : lw_okq (⟨"java/lang/Throwable", "fillInStackTrace", "(I)Ljava/lang/Throwable;"⟩, 6) := ⟨⟨by decide +kernel, by decide +kernel⟩, List.mem_of_getElem? (i := 136) (by decide +kernel), List.mem_of_getElem? (i := 134) (by decide +kernel), List.mem_of_getElem? (i := 135) (by decide +kernel)⟩
theorem lw_p1 : lw_okq (⟨"SleepBorder$Border", "advanceTransits", "()V"⟩, 15) := ⟨⟨by decide +kernel, by decide +kernel⟩, List.mem_of_getElem? (i := 20) (by decide +kernel), List.mem_of_getElem? (i := 174) (by decide +kernel), List.mem_of_getElem? (i := 175) (by decide +kernel)⟩
theorem lw_p2 : lw_okq (⟨"SleepBorder$Border", "shortenLullabies", "()V"⟩, 15) := ⟨⟨by decide +kernel, by decide +kernel⟩, List.mem_of_getElem? (i := 20) (by decide +kernel), List.mem_of_getElem? (i := 178) (by decide +kernel), List.mem_of_getElem? (i := 179) (by decide +kernel)⟩
theorem lw_p3 : lw_okq (⟨"SleepBorder$Border", "searchOn", "(II)V"⟩, 15) := ⟨⟨by decide +kernel, by decide +kernel⟩, List.mem_of_getElem? (i := 20) (by decide +kernel), List.mem_of_getElem? (i := 186) (by decide +kernel), List.mem_of_getElem? (i := 187) (by decide +kernel)⟩
theorem lw_p4 : lw_okq (⟨"SleepBorder$Border", "beginSearchOrRest", "(I)V"⟩, 15) := ⟨⟨by decide +kernel, by decide +kernel⟩, List.mem_of_getElem? (i := 20) (by decide +kernel), List.mem_of_getElem? (i := 201) (by decide +kernel), List.mem_of_getElem? (i := 202) (by decide +kernel)⟩
theorem lw_p5 : lw_okq (⟨"SleepBorder", "requireTraveller", "(I)V"⟩, 2) := ⟨⟨by decide +kernel, by decide +kernel⟩, List.mem_of_getElem? (i := 12) (by decide +kernel), List.mem_of_getElem? (i := 262) (by decide +kernel), List.mem_of_getElem? (i := 263) (by decide +kernel)⟩
theorem lw_p6 : lw_okq (⟨"SleepBorder", "requireGuard", "(I)V"⟩, 2) := ⟨⟨by decide +kernel, by decide +kernel⟩, List.mem_of_getElem? (i := 12) (by decide +kernel), List.mem_of_getElem? (i := 313) (by decide +kernel), List.mem_of_getElem? (i := 314) (by decide +kernel)⟩
theorem lw_p7 : lw_okq (⟨"SleepBorder", "requireWaiting", "(I)V"⟩, 2) := ⟨⟨by decide +kernel, by decide +kernel⟩, List.mem_of_getElem? (i := 12) (by decide +kernel), List.mem_of_getElem? (i := 446) (by decide +kernel), List.mem_of_getElem? (i := 447) (by decide +kernel)⟩
def lw_privs_1 : List (MethodName × Nat) := [(⟨"java/lang/Throwable", "fillInStackTrace", "(I)Ljava/lang/Throwable;"⟩, 6), (⟨"SleepBorder$Border", "advanceTransits", "()V"⟩, 15), (⟨"SleepBorder$Border", "shortenLullabies", "()V"⟩, 15), (⟨"SleepBorder$Border", "searchOn", "(II)V"⟩, 15), (⟨"SleepBorder$Border", "beginSearchOrRest", "(I)V"⟩, 15), (⟨"SleepBorder", "requireTraveller", "(I)V"⟩, 2), (⟨"SleepBorder", "requireGuard", "(I)V"⟩, 2), (⟨"SleepBorder", "requireWaiting", "(I)V"⟩, 2)]
theorem lw_r1 : ∀ q ∈ lw_privs_1, lw_okq q := List.forall_mem_cons.mpr ⟨lw_p0, List.forall_mem_cons.mpr ⟨lw_p1, List.forall_mem_cons.mpr ⟨lw_p2, List.forall_mem_cons.mpr ⟨lw_p3, List.forall_mem_cons.mpr ⟨lw_p4, List.forall_mem_cons.mpr ⟨lw_p5, List.forall_mem_cons.mpr ⟨lw_p6, List.forall_mem_cons.mpr ⟨lw_p7, fun _ h => absurd h List.not_mem_nil⟩⟩⟩⟩⟩⟩⟩⟩
def lw_privs : List (MethodName × Nat) := lw_privs_1
def lw_tbl : List Cond := k2_sels lw_privs ++ tables_1
theorem lw_privs_ok : ∀ q ∈ lw_privs, lw_okq q := lw_r1
/-- the streams that the claim lets the run draw from -/
abbrev lw_cs : List Choice := [Jvm.Choice.named "NaN.bits"]
theorem lw_bits : nanBits ∈ lw_cs := by first | decide | exact List.mem_cons_self | simp [lw_cs, nanBits]
-- ===== end of PART A; then your names; then what follows =====
end
section
/-! ===== BEGIN words of one list among another's, by their places ===== -/
theorem goodIn_r {big : List Cond} (ws : List Cond) (ps : List Nat) (hp : ws = ps.filterMap (fun i => big[i]?)) (h : ws.all goodWord = true) : GoodIn big ws := by
  intro w hw
  have h1 := List.all_eq_true.mp h w hw
  rw [hp] at hw
  obtain ⟨i, -, hi⟩ := List.mem_filterMap.mp hw
  have hm : w ∈ big := by first | exact List.mem_of_getElem? hi | exact List.getElem?_mem hi
  exact ⟨hm, good_of_word h1⟩
theorem goodIn_app {big a b : List Cond} (ha : GoodIn big a) (hb : GoodIn big b) : GoodIn big (a ++ b) := fun w h => (List.mem_append.mp h).elim (ha w) (hb w)
theorem goodIn_ca {big a b : List Cond} {c : Cond} (ha : GoodIn big (c :: a)) (hb : GoodIn big b) : GoodIn big (c :: (a ++ b)) := fun w h => (List.mem_cons.mp h).elim (fun e => ha w (List.mem_cons.mpr (Or.inl e))) (fun h => (List.mem_append.mp h).elim (fun h => ha w (List.mem_cons.mpr (Or.inr h))) (hb w))
theorem goodIn_sub {big ws : List Cond} (hm : ∀ w ∈ ws, w ∈ big) (h : ws.all goodWord = true) : GoodIn big ws := fun w hw => ⟨hm w hw, good_of_word (List.all_eq_true.mp h w hw)⟩
/-! ===== END ===== -/

/-! ===== BEGIN exceptions that leave a method, and their catching by the caller (launches without stack traces) ===== -/
section VXA
/-! The laws vx_back, vx_callV, vx_callS, vx_callSW, vx_throw0, vx_throwS follow proofs of the library, with one case more: JvmDerived/Free/Laws.lean (Back.of_free), Shelf42/LK1.lean (callV, callS), Shelf/KitTraced.lean (throwNew0V, throwNewS). -/
/-- where a method has thrown q: the class by its name, the cell, what was written, the world -/
def vx_T (XC : String → State → State → Prop) (st : State) (q : Addr) (t : State) (mc ms : Nat) (free : Addr → Prop) : Prop :=
  ∃ (E : String) (ce : Cell) (L : List Loc), XC E st t ∧ t.heap[q]? = some ce ∧ ce.vm = .none ∧ st.vm.findClass E = some ce.cls ∧ st.WarmedH t.vm ∧ st.sameButNew ({ t with vm := st.vm } : State) L mc ms ∧ ∀ z ∈ L, free z.base
def vx_Q (Qc : Array Value → State → Outcome → State → Prop) (XC : String → State → State → Prop) (mc ms : Nat) (free : Addr → Prop) : Array Value → State → Outcome → State → Prop := fun a st o t =>
  (Qc a st o t ∧ ∃ L, FrameEnd st o t L mc ms ∧ ∀ q ∈ L, free q.base) ∨ ∃ q, o = .threw q ∧ vx_T XC st q t mc ms free
/-- a callee that returns or throws -/
def vx_Met (l : Launch) (y : MethodName) (ws : List Cond) (rm : Room) (Pc : Array Value → State → Prop) (Qc : Array Value → State → Outcome → State → Prop) (XC : String → State → State → Prop) (mc ms : Nat) (free : Addr → Prop) : Prop :=
  MetFree l y (headSpec ws rm) Pc (fun _ _ _ _ _ => True) (vx_Q Qc XC mc ms free)
def vx_Post (XC : String → State → State → Prop) (mc ms : Nat) (free : Addr → Prop) : Pt → Array Value → Addr → Pt → Prop := fun A a q B =>
  ∃ (g : JFrame) (mk : MethodId) (t : State) (L : List Loc) (E : String) (ce : Cell), B.U.heap = t.heap ∧ B.U.vm = t.vm ∧ XC E (A.U.calling g mk a) t ∧ t.heap[q]? = some ce ∧ ce.vm = .none ∧ A.U.vm.findClass E = some ce.cls ∧ B.locs = A.locs ++ L ∧ (∀ z ∈ L, free z.base) ∧ B.cells = A.cells + mc ∧ B.slots = A.slots + ms
def vx_Back (l : Launch) (R : Room) (p : Program) (e : Env) (below : List Frame) (s : State) (sargs : Array Value) (y : MethodName) (len W9 : Nat)
    (Pre : Pt → Array Value → Prop) (Post : Pt → Array Value → Option Value → Pt → Prop) (PostX : Pt → Array Value → Addr → Pt → Prop) : Prop :=
  ∀ (m : MethodId) (meth : Method) (c : Code) (A : Pt) (g : JFrame) (ig : Instr) (mk : MethodId) (a : Array Value),
    Stand p l e R s m sargs below meth c A.U A.locs A.cells A.slots → g.method = m → g.locals.size = c.maxLocals → decode c.code g.pc = .ok (ig, len) →
    2 * g.monitorRoom + (g.stack.map fun v => v.category).sum ≤ W9 → A.U.methodNamed? y = some mk → Pre A a →
    (∃ (v : Option Value) (B : Pt), Stand p l e R s m sargs below meth c B.U B.locs B.cells B.slots ∧ Post A a v B ∧
      Steps p.tables e below (doInvoke e (A.U.setTop g) [] mk a).1 (B.U.setTop { g with pc := g.pc + len, stack := v.toList ++ g.stack })) ∨
    (∃ (q : Addr) (B : Pt), Stand p l e R s m sargs below meth c B.U B.locs B.cells B.slots ∧ PostX A a q B ∧
      Steps p.tables e below (doInvoke e (A.U.setTop g) [] mk a).1 ((B.U.setTop g).pushFrame (.throwing q)))
section Payer
variable {l : Launch} {R : Room} {p : Program} {e : Env} {below : List Frame} {s : State} {sargs : Array Value} {y : MethodName} {len W9 : Nat}
theorem vx_back {ws : List Cond} {rm : Room} {Pc : Array Value → State → Prop} {Qc : Array Value → State → Outcome → State → Prop} {XC : String → State → State → Prop} {mc ms : Nat} {free : Addr → Prop} {bytes : ByteArray} {maxL : Nat} {ret : Option FieldType}
    (hM : vx_Met l y ws rm Pc Qc XC mc ms free) (hblind : FrameBlind Pc) (hrc : rm.cells = mc) (hrs : rm.slots = ms)
    (hframes : rm.frames + 1 ≤ R.frames) (hlocals : W9 + (maxL + 11) + rm.locals ≤ R.locals)
    (hws : ∀ w ∈ ws, ∀ a' U, s.WarmedH U.vm → w.before a' U = true) (hcode : Cond.code y bytes maxL ret ∈ ws) (hinit : ∀ a' U, s.WarmedH U.vm → (Cond.initialized y.cls).before a' U = true) :
    vx_Back l R p e below s sargs y len W9 (PreOf R mc ms Pc) (PostOf Qc mc ms free) (vx_Post XC mc ms free) := by
  intro m meth c A g ig mk a X hg hsize hdg hW hn hp
  have h1 : (headSpec ws rm).pre.before a A.U = true := atoms_intro fun w hw => hws w hw _ _ X.warmed
  have h2 : (Cond.code y bytes maxL ret).before a A.U = true := hws _ hcode _ _ X.warmed
  have h3 : (Cond.initialized y.cls).before a A.U = true := hinit _ _ X.warmed
  have h4 : A.cells + (headSpec ws rm).room.cells ≤ R.cells := by rw [show (headSpec ws rm).room.cells = mc from hrc]; exact hp.1
  have h5 : A.slots + (headSpec ws rm).room.slots ≤ R.slots := by rw [show (headSpec ws rm).room.slots = ms from hrs]; exact hp.2.1
  have hPc : Pc a (A.U.calling g mk a) := hblind _ _ _ _ hp.2.2
  obtain ⟨U, Ls, c0, s0⟩ := A
  dsimp only [Pt.U, Pt.locs, Pt.cells, Pt.slots] at h1 h2 h3 h4 h5 X hn hPc ⊢
  obtain ⟨methY, cY, hmY, hcY, -, hlY, -, -, -, -⟩ := Cond.code_spec hn h2
  obtain ⟨kY, hkY, -⟩ := className_of_methodNamed hn
  have hinitY : kY.init = .initialized := Cond.initialized_spec (findClass_of_methodNamed hn) hkY h3
  have h : At U g.method c below := by rw [hg]; exact X.here
  have hlocals9 : W9 + (maxL + 11) + (headSpec ws rm).room.locals ≤ R.locals := hlocals
  have happ : (headSpec ws rm).appliesLoose y e.platform (U.calling g mk a) = true :=
    Spec.appliesLoose_calling (g := g) h hdg hn hkY hinitY
      (X.room_calling (g := g) (R' := (headSpec ws rm).room) hsize hmY hcY hframes (by rw [hlY]; omega) h4 h5) h1
  obtain ⟨mid, hmid⟩ := h.above
  have hfr : (U.setTop g).frames = (.java g :: mid) ++ below := by rw [State.frames_setTop' g h.top, hmid]; rfl
  obtain ⟨o, s₂, hsteps, -, hend, hq⟩ := Steps.callFree hM p X.admits X.cas X.clock (acts := []) hfr happ hPc trivial
  have hq' : vx_Q Qc XC mc ms free a (U.calling g mk a) o s₂ := hq
  rw [State.frames_setTop' g h.top] at hend
  obtain ⟨g₀, hg0⟩ := Option.isSome_iff_exists.mp h.top
  obtain ⟨r, hr⟩ := State.topJava?_eq_some.mp hg0
  have hr' : (({ U with heap := s₂.heap, slotsUsed := s₂.slotsUsed } : State).setVm s₂.vm).frames = .java g₀ :: r := hr
  rcases hq' with ⟨hqc, L, hfe, hL⟩ | ⟨q, rfl, E, ce, L, hx, hce, hcv, hcl, hW₂, hsm, hL⟩
  · obtain ⟨⟨v, rfl⟩, hW₂, e2, q2, q3, q4, q5, q6⟩ := id hfe
    have e3 : s₂ = ({ (U.calling g mk a).setFrames s₂.frames with heap := s₂.heap, slotsUsed := s₂.slotsUsed } : State).setVm s₂.vm := by
      have : s₂ = ({ s₂ with vm := (U.calling g mk a).vm } : State).setVm s₂.vm := rfl
      rw [e2] at this
      exact this
    obtain ⟨c₂, i₂, len₂, hc₂, hd₂, hf₂⟩ := hend
    have hW' : U.WarmedH s₂.vm := hW₂
    have hcc : c₂ = c := by
      have h1 : s₂.code? g.method = U.code? g.method := by
        rw [State.code?_eq, State.code?_eq, hW'.alike.method?]
      exact Option.some.inj (hc₂.symm.trans (h1.trans h.code))
    subst hcc
    have hlen : len₂ = len := by rw [hdg] at hd₂; cases hd₂; rfl
    subst hlen
    have hs₂ : s₂ = (({ U with heap := s₂.heap, slotsUsed := s₂.slotsUsed } : State).setVm s₂.vm).setTop { g with pc := g.pc + len₂, stack := v.toList ++ g.stack } := by
      refine e3.trans ?_
      rw [hf₂, State.calling_eq h.top, State.setFrames_setFrames, State.setTop_of_frames _ hr', hr]
      rfl
    have hsame : U.sameButNew ({ U with heap := s₂.heap, slotsUsed := s₂.slotsUsed } : State) L mc ms := by
      refine ⟨?_, q2, q3, q4, q5, q6⟩
      obtain ⟨t, ht, -⟩ := State.frames_cons hr
      show ({ U with heap := s₂.heap, slotsUsed := s₂.slotsUsed } : State) = { U.setFrames U.frames with heap := s₂.heap, slotsUsed := s₂.slotsUsed }
      rw [State.setFrames_self ht]
    subst hg
    refine Or.inl ⟨v, ⟨(({ U with heap := s₂.heap, slotsUsed := s₂.slotsUsed } : State).setVm s₂.vm), Ls ++ L, c0 + mc, s0 + ms⟩,
      ⟨X.admits, X.cas, X.clock, X.frames, X.room, X.hears, X.method, X.code, (X.here.setHeapUsed s₂.heap s₂.slotsUsed).setVm hW'.alike, X.tail, State.WarmedH.trans X.warmed hW', X.limits, X.bytes, X.same.trans (hsame.setVm s.vm)⟩,
      ⟨g, mk, s₂, L, rfl, rfl, hqc, rfl, hL, rfl, rfl⟩, ?_⟩
    show Steps p.tables e below _ ((({ U with heap := s₂.heap, slotsUsed := s₂.slotsUsed } : State).setVm s₂.vm).setTop { g with pc := g.pc + len₂, stack := v.toList ++ g.stack })
    rw [← hs₂]
    exact hsteps
  · obtain ⟨e2, q2, q3, q4, q5, q6⟩ := id hsm
    have e3 : s₂ = ({ (U.calling g mk a).setFrames s₂.frames with heap := s₂.heap, slotsUsed := s₂.slotsUsed } : State).setVm s₂.vm := by
      have : s₂ = ({ s₂ with vm := (U.calling g mk a).vm } : State).setVm s₂.vm := rfl
      rw [e2] at this
      exact this
    have hf₂ : s₂.frames = .throwing q :: .java g :: U.frames.tail := hend
    have hW' : U.WarmedH s₂.vm := hW₂
    have hs₂ : s₂ = ((({ U with heap := s₂.heap, slotsUsed := s₂.slotsUsed } : State).setVm s₂.vm).setTop g).pushFrame (.throwing q) := by
      refine e3.trans ?_
      rw [hf₂, State.calling_eq h.top, State.setFrames_setFrames, State.pushFrame, State.frames_setTop _ hr', State.setTop_of_frames _ hr', State.setFrames_setFrames, hr]
      rfl
    have hsame : U.sameButNew ({ U with heap := s₂.heap, slotsUsed := s₂.slotsUsed } : State) L mc ms := by
      refine ⟨?_, q2, q3, q4, q5, q6⟩
      obtain ⟨t, ht, -⟩ := State.frames_cons hr
      show ({ U with heap := s₂.heap, slotsUsed := s₂.slotsUsed } : State) = { U.setFrames U.frames with heap := s₂.heap, slotsUsed := s₂.slotsUsed }
      rw [State.setFrames_self ht]
    subst hg
    refine Or.inr ⟨q, ⟨(({ U with heap := s₂.heap, slotsUsed := s₂.slotsUsed } : State).setVm s₂.vm), Ls ++ L, c0 + mc, s0 + ms⟩,
      ⟨X.admits, X.cas, X.clock, X.frames, X.room, X.hears, X.method, X.code, (X.here.setHeapUsed s₂.heap s₂.slotsUsed).setVm hW'.alike, X.tail, State.WarmedH.trans X.warmed hW', X.limits, X.bytes, X.same.trans (hsame.setVm s.vm)⟩,
      ⟨g, mk, s₂, L, E, ce, rfl, rfl, hx, hce, hcv, hcl, rfl, hL, rfl, rfl⟩, ?_⟩
    show Steps p.tables e below _ (((({ U with heap := s₂.heap, slotsUsed := s₂.slotsUsed } : State).setVm s₂.vm).setTop g).pushFrame (.throwing q))
    rw [← hs₂]
    exact hsteps
end Payer
section Calls
variable {p : Program} {l : Launch} {e : Env} {R : Room} {s : State} {m : MethodId} {args : Array Value} {below : List Frame} {meth : Method} {c : Code} {T : State} {locs : List Loc} {cells slots : Nat}
theorem vx_callV (X : Stand p l e R s m args below meth c T locs cells slots) (hexec : p.tables.exec = Jvm.exec) {own C : String} {index : Nat} {y : MethodName} {bytes : ByteArray} {maxL : Nat} {ret : Option FieldType}
    (hown : s.vm.findClass own = some m.cls) (hlink : (Cond.methodLink own index y).before args s = true) (hinst : (Cond.instanceMethod y).before args s = true) (hsel : (Cond.selects C y y).before args s = true)
    (hcode : (Cond.code y bytes maxL ret).before args s = true) (hy : y.cls ≠ "java/lang/invoke/MethodHandle" ∧ y.cls ≠ "java/lang/invoke/VarHandle")
    {W9 : Nat} {Pre : Pt → Array Value → Prop} {Post : Pt → Array Value → Option Value → Pt → Prop} {PostX : Pt → Array Value → Addr → Pt → Prop} (hK : vx_Back l R p e below s args y 3 W9 Pre Post PostX)
    {b : Addr} {cellB : Cell} (hcell : T.heap[b]? = some cellB) (hobj : cellB.vm.isStatics = false) (hcls : s.vm.findClass C = some cellB.cls)
    {g : JFrame} (hg : g.method = m) (hsize : g.locals.size = c.maxLocals) {argsL rest : List Value} (hlen : ∀ sig, parseMethodDescriptor y.desc = some sig → argsL.length = sig.parameters.length)
    (hstack : g.stack = argsL.reverse ++ .ref b :: rest) (hW : 2 * g.monitorRoom + (rest.map fun v => v.category).sum ≤ W9) (hdg : decode c.code g.pc = .ok (.invokevirtual index, 3))
    (hpre : ∀ vm₁, s.WarmedH vm₁ → Pre ⟨T.setVm vm₁, locs, cells, slots⟩ (Value.ref b :: argsL).toArray) :
    (∃ (v : Option Value) (vm₁ : Vm) (B : Pt), s.WarmedH vm₁ ∧ Stand p l e R s m args below meth c B.U B.locs B.cells B.slots ∧ Post ⟨T.setVm vm₁, locs, cells, slots⟩ (Value.ref b :: argsL).toArray v B ∧
      ∀ target, Steps p.tables e below (B.U.setTop { g with pc := g.pc + 3, stack := v.toList ++ rest }) target → Steps p.tables e below (T.setTop g) target) ∨
    (∃ (q : Addr) (vm₁ : Vm) (B : Pt), s.WarmedH vm₁ ∧ Stand p l e R s m args below meth c B.U B.locs B.cells B.slots ∧ PostX ⟨T.setVm vm₁, locs, cells, slots⟩ (Value.ref b :: argsL).toArray q B ∧
      Steps p.tables e below (T.setTop g) ((B.U.setTop { g with stack := rest }).pushFrame (.throwing q))) := by
  obtain ⟨mk, methM, hnamed, hmethM, hstM, habM⟩ := Cond.instanceMethod_spec hinst
  obtain ⟨methM', cM, hmethM', -, -, -, -, -, -, hsigM⟩ := Cond.code_spec hnamed hcode
  cases hmethM.symm.trans hmethM'
  obtain ⟨c2, r2, m2, q1, q2, q3, q4, kP, hkP, hkPi⟩ := Cond.selects_spec hsel
  cases hcls.symm.trans q1
  cases (State.methodFound?_of_named hnamed hy).symm.trans q2
  cases hnamed.symm.trans q3
  have hselP : selectMethod e.platform s.vm cellB.cls mk = .method mk := by rw [Launch.admits_selectMethod X.admits]; exact q4
  obtain ⟨vm₁, X₁, hstep₁⟩ := X.invokevirtual hexec hown hlink hnamed hmethM hstM hkP hkPi hy (a := b) (cell := cellB) hcell
    (fun z h => by rw [h] at hobj; cases hobj) hselP hmethM habM hkP hkPi (g := g) hg (argsL := argsL) (rest := rest) (hlen _ hsigM) hstack hdg
  rcases hK m meth c ⟨T.setVm vm₁, locs, cells, slots⟩ { g with stack := rest } (.invokevirtual index) mk (Value.ref b :: argsL).toArray X₁ hg hsize hdg hW (X₁.named hnamed) (hpre vm₁ X₁.warmed) with ⟨v, B, X', hpost, hsteps⟩ | ⟨q, B, X', hpost, hsteps⟩
  · exact Or.inl ⟨v, vm₁, B, X₁.warmed, X', hpost, fun target h => hstep₁ _ fun acts => by rw [doInvoke_state]; exact hsteps.trans h⟩
  · exact Or.inr ⟨q, vm₁, B, X₁.warmed, X', hpost, hstep₁ _ fun acts => by rw [doInvoke_state]; exact hsteps⟩
theorem vx_callS (X : Stand p l e R s m args below meth c T locs cells slots) (hexec : p.tables.exec = Jvm.exec) {own : String} {index : Nat} {y : MethodName} {bytes : ByteArray} {maxL : Nat} {ret : Option FieldType}
    (hown : s.vm.findClass own = some m.cls) (hlink : (Cond.methodLink own index y).before args s = true) (hstat : (Cond.static y).before args s = true) (hinit : (Cond.initialized y.cls).before args s = true)
    (hcode : (Cond.code y bytes maxL ret).before args s = true) (hy : y.cls ≠ "java/lang/invoke/MethodHandle" ∧ y.cls ≠ "java/lang/invoke/VarHandle")
    {W9 : Nat} {Pre : Pt → Array Value → Prop} {Post : Pt → Array Value → Option Value → Pt → Prop} {PostX : Pt → Array Value → Addr → Pt → Prop} (hK : vx_Back l R p e below s args y 3 W9 Pre Post PostX)
    {g : JFrame} (hg : g.method = m) (hsize : g.locals.size = c.maxLocals) {argsL rest : List Value} (hlen : ∀ sig, parseMethodDescriptor y.desc = some sig → argsL.length = sig.parameters.length)
    (hstack : g.stack = argsL.reverse ++ rest) (hW : 2 * g.monitorRoom + (rest.map fun v => v.category).sum ≤ W9) (hdg : decode c.code g.pc = .ok (.invokestatic index, 3))
    (hpre : ∀ vm₁, s.WarmedH vm₁ → Pre ⟨T.setVm vm₁, locs, cells, slots⟩ argsL.toArray) :
    (∃ (v : Option Value) (vm₁ : Vm) (B : Pt), s.WarmedH vm₁ ∧ Stand p l e R s m args below meth c B.U B.locs B.cells B.slots ∧ Post ⟨T.setVm vm₁, locs, cells, slots⟩ argsL.toArray v B ∧
      ∀ target, Steps p.tables e below (B.U.setTop { g with pc := g.pc + 3, stack := v.toList ++ rest }) target → Steps p.tables e below (T.setTop g) target) ∨
    (∃ (q : Addr) (vm₁ : Vm) (B : Pt), s.WarmedH vm₁ ∧ Stand p l e R s m args below meth c B.U B.locs B.cells B.slots ∧ PostX ⟨T.setVm vm₁, locs, cells, slots⟩ argsL.toArray q B ∧
      Steps p.tables e below (T.setTop g) ((B.U.setTop { g with stack := rest }).pushFrame (.throwing q))) := by
  obtain ⟨mk, hnamed⟩ := Cond.code_named hcode
  obtain ⟨methM, cM, hmethM, -, -, -, -, -, -, hsigM⟩ := Cond.code_spec hnamed hcode
  have hstatic : methM.isStatic = true := Cond.static_spec hnamed hmethM hstat
  obtain ⟨kP, hkP, -⟩ := className_of_methodNamed hnamed
  have hinitP : kP.init = .initialized := Cond.initialized_spec (findClass_of_methodNamed hnamed) hkP hinit
  obtain ⟨vm₁, X₁, hstep₁⟩ := X.invokestatic hexec hown hlink hnamed hmethM hstatic hkP hinitP hy (g := g) hg (argsL := argsL) (rest := rest) (hlen _ hsigM) hstack hdg
  rcases hK m meth c ⟨T.setVm vm₁, locs, cells, slots⟩ { g with stack := rest } (.invokestatic index) mk argsL.toArray X₁ hg hsize hdg hW (X₁.named hnamed) (hpre vm₁ X₁.warmed) with ⟨v, B, X', hpost, hsteps⟩ | ⟨q, B, X', hpost, hsteps⟩
  · exact Or.inl ⟨v, vm₁, B, X₁.warmed, X', hpost, fun target h => hstep₁ _ fun acts => by rw [doInvoke_state]; exact hsteps.trans h⟩
  · exact Or.inr ⟨q, vm₁, B, X₁.warmed, X', hpost, hstep₁ _ fun acts => by rw [doInvoke_state]; exact hsteps⟩
end Calls
theorem vx_cls {s : State} {T : State} {vm₁ : Vm} {E : String} {k : ClassId} (hW : s.WarmedH vm₁) (h : (T.setVm vm₁).vm.findClass E = some k) : s.vm.findClass E = some k := by
  have h1 : vm₁.findClass E = some k := h
  rw [hW.alike.findClass] at h1
  exact h1
/-- the method's frame g, with q thrown over it -/
def vx_W (p : Program) (l : Launch) (e : Env) (R : Room) (s : State) (m : MethodId) (args : Array Value) (below : List Frame) (meth : Method) (c : Code) (H : Heap) (locs : List Loc) (cells slots : Nat) (Q : State → Prop) (g : JFrame) (q : Addr) : Prop :=
  ∀ T : State, T.heap = H → Stand p l e R s m args below meth c T locs cells slots → ∃ t, Steps p.tables e below ((T.setTop g).pushFrame (.throwing q)) t ∧ Q t
def vx_Run (p : Program) (l : Launch) (e : Env) (R : Room) (s : State) (m : MethodId) (args : Array Value) (below : List Frame) (meth : Method) (c : Code) (H : Heap) (locs : List Loc) (cells slots mc ms : Nat) (g : JFrame) (rest : List Value) (Qa : State → Outcome → State → Prop) (XC : String → State → State → Prop) (free : Addr → Prop) : Prop :=
  ∀ T : State, T.heap = H → Stand p l e R s m args below meth c T locs cells slots →
    (∃ (v : Option Value) (st₀ t T' : State) (L : List Loc), st₀.heap = H ∧ Stand p l e R s m args below meth c T' (locs ++ L) (cells + mc) (slots + ms) ∧ (∀ q ∈ L, free q.base) ∧ T'.heap = t.heap ∧ T'.vm = t.vm ∧ Qa st₀ (.returned v) t ∧
      Goes p e below T g T' { g with pc := g.pc + 3, stack := v.toList ++ rest }) ∨
    (∃ (q : Addr) (st₀ t T' : State) (L : List Loc) (E : String) (ce : Cell), st₀.heap = H ∧ Stand p l e R s m args below meth c T' (locs ++ L) (cells + mc) (slots + ms) ∧ (∀ z ∈ L, free z.base) ∧ T'.heap = t.heap ∧ T'.vm = t.vm ∧ XC E st₀ t ∧ t.heap[q]? = some ce ∧ ce.vm = .none ∧ s.vm.findClass E = some ce.cls ∧
      Steps p.tables e below (T.setTop g) ((T'.setTop { g with stack := rest }).pushFrame (.throwing q)))
def vx_X {S : Type} (px : S → Prop) (B : String → S → State → Prop) (A : Nat → Prop) : String → State → State → Prop := fun E st t => ∃ u : S, px u ∧ B E u t ∧ va_F A st t
section Runs
variable {p : Program} {l : Launch} {e : Env} {R : Room} {s : State} {m : MethodId} {args : Array Value} {below : List Frame} {meth : Method} {c : Code} {H : Heap} {locs : List Loc} {cells slots : Nat}
variable {y : MethodName} {bytes cc : ByteArray} {maxL nL mc ms n index : Nat} {ret : Option FieldType} {ws : List Cond} {rm : Room} {Pc : Array Value → State → Prop} {Qc : Array Value → State → Outcome → State → Prop} {XC : String → State → State → Prop} {free : Addr → Prop} {Ts : List Cond} {own C : String} {b : Addr} {As rest : List Value} {g : JFrame}
theorem vx_callBack (cb : CallB R s args own index y bytes maxL ret ws rm mc ms n) (hM : vx_Met l y ws rm Pc Qc XC mc ms free) (hbl : FrameBlind Pc) : vx_Back l R p e below s args y 3 8 (PreOf R mc ms Pc) (PostOf Qc mc ms free) (vx_Post XC mc ms free) := by
  obtain ⟨hrc, hrs, hfr, hlo, hws, hcw, -, hini, -⟩ := cb
  exact vx_back (bytes := bytes) (maxL := maxL) (ret := ret) hM hbl hrc hrs hfr hlo hws hcw (fun a' U hW => word_at hW (Or.inl (by first | rfl | simp [Cond.onTables, Cond.keeps, Cond.steady])) hini)
theorem vx_runV (S : CallFix p m c cc nL s args Ts own) (hM : vx_Met l y ws rm Pc Qc XC mc ms free) (cw : CallW R s args own C index y bytes maxL ret ws rm mc ms n) (hp : PreV s H C b Pc As)
    (hg : g.method = m) (hn : As.length = n) (hsize : g.locals.size = nL) (hstack : g.stack = As.reverse ++ .ref b :: rest) (hW : 2 * g.monitorRoom + (rest.map fun v => v.category).sum ≤ 8) (hdg : decode cc g.pc = .ok (.invokevirtual index, 3)) (hf : cells + mc ≤ R.cells ∧ slots + ms ≤ R.slots) :
    vx_Run p l e R s m args below meth c H locs cells slots mc ms g rest (Qc (Value.ref b :: As).toArray) XC free := by
  have hK : vx_Back l R p e below s args y 3 8 (PreOf R mc ms Pc) (PostOf Qc mc ms free) (vx_Post XC mc ms free) := vx_callBack cw.1 hM hp.1
  obtain ⟨⟨-, -, -, -, -, -, hcode, -, hy, hlen, hl⟩, hin, hse⟩ := cw
  obtain ⟨hx, hb, hml, ho, -⟩ := S
  obtain ⟨-, ⟨cellB, hcB, hoB, hclB⟩, hPc⟩ := hp
  intro T hT X
  rcases vx_callV X hx (C := C) (bytes := bytes) (maxL := maxL) (ret := ret) ho hl hin hse hcode hy hK (by rw [hT]; exact hcB) hoB hclB hg (hsize.trans hml.symm) (argsL := As) (rest := rest) (fun sig h => hn.trans (hlen sig h)) hstack hW (by rw [hb]; exact hdg)
    (fun vm₁ hW₁ => ⟨hf.1, hf.2, hPc (T.setVm vm₁) hT hW₁⟩) with ⟨v, vm₁, ⟨U', l2, c2, s2⟩, hW₁, X', ⟨g', mk, t, L, e1, e2, hq, h1, hL, h2, h3⟩, st⟩ | ⟨q, vm₁, ⟨U', l2, c2, s2⟩, hW₁, X', ⟨g', mk, t, L, E, ce, e1, e2, hq, hce, hcv, hcl, h1, hL, h2, h3⟩, st⟩
  · dsimp only [Pt.U, Pt.locs, Pt.cells, Pt.slots] at X' e1 e2 h1 h2 h3 st
    subst h1; subst h2; subst h3
    exact Or.inl ⟨v, (T.setVm vm₁).calling g' mk (Value.ref b :: As).toArray, t, U', L, hT, X', hL, e1, e2, hq, st⟩
  · dsimp only [Pt.U, Pt.locs, Pt.cells, Pt.slots] at X' e1 e2 h1 h2 h3 st hcl
    subst h1; subst h2; subst h3
    exact Or.inr ⟨q, (T.setVm vm₁).calling g' mk (Value.ref b :: As).toArray, t, U', L, E, ce, hT, X', hL, e1, e2, hq, hce, hcv, vx_cls hW₁ hcl, st⟩
theorem vx_runS (S : CallFix p m c cc nL s args Ts own) (hM : vx_Met l y ws rm Pc Qc XC mc ms free) (cw : CallB R s args own index y bytes maxL ret ws rm mc ms n ∧ (Cond.static y).before args s = true) (hp : PreS s H Pc As)
    (hg : g.method = m) (hn : As.length = n) (hsize : g.locals.size = nL) (hstack : g.stack = As.reverse ++ rest) (hW : 2 * g.monitorRoom + (rest.map fun v => v.category).sum ≤ 8) (hdg : decode cc g.pc = .ok (.invokestatic index, 3)) (hf : cells + mc ≤ R.cells ∧ slots + ms ≤ R.slots) :
    vx_Run p l e R s m args below meth c H locs cells slots mc ms g rest (Qc As.toArray) XC free := by
  have hK : vx_Back l R p e below s args y 3 8 (PreOf R mc ms Pc) (PostOf Qc mc ms free) (vx_Post XC mc ms free) := vx_callBack cw.1 hM hp.1
  obtain ⟨⟨-, -, -, -, -, -, hcode, hini, hy, hlen, hl⟩, hstt⟩ := cw
  obtain ⟨hx, hb, hml, ho, -⟩ := S
  intro T hT X
  rcases vx_callS X hx (bytes := bytes) (maxL := maxL) (ret := ret) ho hl hstt hini hcode hy hK hg (hsize.trans hml.symm) (argsL := As) (rest := rest) (fun sig h => hn.trans (hlen sig h)) hstack hW (by rw [hb]; exact hdg)
    (fun vm₁ hW₁ => ⟨hf.1, hf.2, hp.2 (T.setVm vm₁) hT hW₁⟩) with ⟨v, vm₁, ⟨U', l2, c2, s2⟩, hW₁, X', ⟨g', mk, t, L, e1, e2, hq, h1, hL, h2, h3⟩, st⟩ | ⟨q, vm₁, ⟨U', l2, c2, s2⟩, hW₁, X', ⟨g', mk, t, L, E, ce, e1, e2, hq, hce, hcv, hcl, h1, hL, h2, h3⟩, st⟩
  · dsimp only [Pt.U, Pt.locs, Pt.cells, Pt.slots] at X' e1 e2 h1 h2 h3 st
    subst h1; subst h2; subst h3
    exact Or.inl ⟨v, (T.setVm vm₁).calling g' mk As.toArray, t, U', L, hT, X', hL, e1, e2, hq, st⟩
  · dsimp only [Pt.U, Pt.locs, Pt.cells, Pt.slots] at X' e1 e2 h1 h2 h3 st hcl
    subst h1; subst h2; subst h3
    exact Or.inr ⟨q, (T.setVm vm₁).calling g' mk As.toArray, t, U', L, E, ce, hT, X', hL, e1, e2, hq, hce, hcv, vx_cls hW₁ hcl, st⟩
end Runs
section Rows
variable {p : Program} {l : Launch} {e : Env} {R : Room} {s : State} {m : MethodId} {args : Array Value} {below : List Frame} {meth : Method} {c : Code} {H : Heap} {locs : List Loc} {cells slots : Nat} {Q : State → Prop}
variable {mc ms : Nat} {free : Addr → Prop} {A0 A1 : Nat → Prop} {H0 : Heap} {a : Array Value} {pc : Nat} {ls : Array Slot} {st0 rest : List Value}
theorem vx_keep {st₀ t T' : State} {L : List Loc} (h0 : st₀.heap = H) (e1 : T'.heap = t.heap) (hS : va_S A0 H0 H locs) (hA : ∀ q, q < H.size → A1 q → A0 q) (hf : ∀ q, free q → A0 q) (hL : ∀ q ∈ L, free q.base) (hF : va_F A1 st₀ t) :
    H.size ≤ T'.heap.size ∧ (∀ q : Nat, q < H.size → ¬ A1 q → T'.heap[q]? = H[q]?) ∧ va_S A0 H0 T'.heap (locs ++ L) := by
  obtain ⟨hz, hk⟩ := hF
  rw [h0] at hz hk
  exact ⟨by rw [e1]; exact hz, fun q h1 h2 => by rw [e1]; exact hk q h1 h2,
    ⟨Nat.le_trans hS.1 (by rw [e1]; exact hz), fun q h1 h2 => by rw [e1, hk q (Nat.lt_of_lt_of_le h1 hS.1) (fun z => h2 (hA q (Nat.lt_of_lt_of_le h1 hS.1) z))]; exact hS.2.1 q h1 h2, fun q hq => by
      rcases List.mem_append.mp hq with h | h
      · exact hS.2.2 q h
      · exact hf _ (hL q h)⟩⟩
theorem vx_calli {S SX : Type} {post : Int32 → S → Prop} {px : SX → Prop} {B : S → State → Prop} {BX : String → SX → State → Prop} {AX : Nat → Prop} (hr : vx_Run p l e R s m args below meth c H locs cells slots mc ms (F0 m pc ls st0) rest (va_Qi post B A1 a) (vx_X px BX AX) free) (hS : va_S A0 H0 H locs) (hA : ∀ q, q < H.size → A1 q → A0 q) (hf : ∀ q, free q → A0 q) (hAX : ∀ q, q < H.size → AX q → A0 q)
    (kx : ∀ (E : String) (ce : Cell) (q9 : Addr) (u : SX) (t : State) (H1 : Heap) (locs1 : List Loc), t.heap = H1 → s.vm.Alike t.vm → px u → BX E u t → H.size ≤ H1.size → (∀ q : Nat, q < H.size → ¬ AX q → H1[q]? = H[q]?) → va_S A0 H0 H1 locs1 → H1[q9]? = some ce → ce.vm = .none → s.vm.findClass E = some ce.cls → vx_W p l e R s m args below meth c H1 locs1 (cells + mc) (slots + ms) Q (F0 m pc ls rest) q9)
    (kk : ∀ (r : Int32) (u : S) (t : State) (H1 : Heap) (locs1 : List Loc), t.heap = H1 → s.vm.Alike t.vm → post r u → B u t → H.size ≤ H1.size → (∀ q : Nat, q < H.size → ¬ A1 q → H1[q]? = H[q]?) → va_S A0 H0 H1 locs1 → W p l e R s m args below meth c H1 locs1 (cells + mc) (slots + ms) Q (F0 m (pc + 3) ls (.int r :: rest))) : W p l e R s m args below meth c H locs cells slots Q (F0 m pc ls st0) := by
  intro T hT X
  rcases hr T hT X with ⟨v, st₀, t, T', L, h0, X', hL, e1, e2, ⟨⟨r, u, hv, hp, hb⟩, hF⟩, st⟩ | ⟨q, st₀, t, T', L, E, ce, h0, X', hL, e1, e2, ⟨u, hp, hb, hF⟩, hce, hcv, hcl, st⟩
  · cases hv
    obtain ⟨k1, k2, k3⟩ := vx_keep h0 e1 hS hA hf hL hF
    obtain ⟨t2, a1, b1⟩ := kk r u t T'.heap (locs ++ L) e1.symm (by rw [← e2]; exact X'.warmed.alike) hp hb k1 k2 k3 T' rfl X'
    exact ⟨t2, st t2 a1, b1⟩
  · obtain ⟨k1, k2, k3⟩ := vx_keep h0 e1 hS hAX hf hL hF
    obtain ⟨t2, a1, b1⟩ := kx E ce q u t T'.heap (locs ++ L) e1.symm (by rw [← e2]; exact X'.warmed.alike) hp hb k1 k2 k3 (by rw [e1]; exact hce) hcv hcl T' rfl X'
    exact ⟨t2, st.trans a1, b1⟩
theorem vx_calll {S SX : Type} {post : Int64 → S → Prop} {px : SX → Prop} {B : S → State → Prop} {BX : String → SX → State → Prop} {AX : Nat → Prop} (hr : vx_Run p l e R s m args below meth c H locs cells slots mc ms (F0 m pc ls st0) rest (va_Ql post B A1 a) (vx_X px BX AX) free) (hS : va_S A0 H0 H locs) (hA : ∀ q, q < H.size → A1 q → A0 q) (hf : ∀ q, free q → A0 q) (hAX : ∀ q, q < H.size → AX q → A0 q)
    (kx : ∀ (E : String) (ce : Cell) (q9 : Addr) (u : SX) (t : State) (H1 : Heap) (locs1 : List Loc), t.heap = H1 → s.vm.Alike t.vm → px u → BX E u t → H.size ≤ H1.size → (∀ q : Nat, q < H.size → ¬ AX q → H1[q]? = H[q]?) → va_S A0 H0 H1 locs1 → H1[q9]? = some ce → ce.vm = .none → s.vm.findClass E = some ce.cls → vx_W p l e R s m args below meth c H1 locs1 (cells + mc) (slots + ms) Q (F0 m pc ls rest) q9)
    (kk : ∀ (r : Int64) (u : S) (t : State) (H1 : Heap) (locs1 : List Loc), t.heap = H1 → s.vm.Alike t.vm → post r u → B u t → H.size ≤ H1.size → (∀ q : Nat, q < H.size → ¬ A1 q → H1[q]? = H[q]?) → va_S A0 H0 H1 locs1 → W p l e R s m args below meth c H1 locs1 (cells + mc) (slots + ms) Q (F0 m (pc + 3) ls (.long r :: rest))) : W p l e R s m args below meth c H locs cells slots Q (F0 m pc ls st0) := by
  intro T hT X
  rcases hr T hT X with ⟨v, st₀, t, T', L, h0, X', hL, e1, e2, ⟨⟨r, u, hv, hp, hb⟩, hF⟩, st⟩ | ⟨q, st₀, t, T', L, E, ce, h0, X', hL, e1, e2, ⟨u, hp, hb, hF⟩, hce, hcv, hcl, st⟩
  · cases hv
    obtain ⟨k1, k2, k3⟩ := vx_keep h0 e1 hS hA hf hL hF
    obtain ⟨t2, a1, b1⟩ := kk r u t T'.heap (locs ++ L) e1.symm (by rw [← e2]; exact X'.warmed.alike) hp hb k1 k2 k3 T' rfl X'
    exact ⟨t2, st t2 a1, b1⟩
  · obtain ⟨k1, k2, k3⟩ := vx_keep h0 e1 hS hAX hf hL hF
    obtain ⟨t2, a1, b1⟩ := kx E ce q u t T'.heap (locs ++ L) e1.symm (by rw [← e2]; exact X'.warmed.alike) hp hb k1 k2 k3 (by rw [e1]; exact hce) hcv hcl T' rfl X'
    exact ⟨t2, st.trans a1, b1⟩
theorem vx_callf {S SX : Type} {post : UInt32 → S → Prop} {px : SX → Prop} {B : S → State → Prop} {BX : String → SX → State → Prop} {AX : Nat → Prop} (hr : vx_Run p l e R s m args below meth c H locs cells slots mc ms (F0 m pc ls st0) rest (va_Qf post B A1 a) (vx_X px BX AX) free) (hS : va_S A0 H0 H locs) (hA : ∀ q, q < H.size → A1 q → A0 q) (hf : ∀ q, free q → A0 q) (hAX : ∀ q, q < H.size → AX q → A0 q)
    (kx : ∀ (E : String) (ce : Cell) (q9 : Addr) (u : SX) (t : State) (H1 : Heap) (locs1 : List Loc), t.heap = H1 → s.vm.Alike t.vm → px u → BX E u t → H.size ≤ H1.size → (∀ q : Nat, q < H.size → ¬ AX q → H1[q]? = H[q]?) → va_S A0 H0 H1 locs1 → H1[q9]? = some ce → ce.vm = .none → s.vm.findClass E = some ce.cls → vx_W p l e R s m args below meth c H1 locs1 (cells + mc) (slots + ms) Q (F0 m pc ls rest) q9)
    (kk : ∀ (r : UInt32) (u : S) (t : State) (H1 : Heap) (locs1 : List Loc), t.heap = H1 → s.vm.Alike t.vm → post r u → B u t → H.size ≤ H1.size → (∀ q : Nat, q < H.size → ¬ A1 q → H1[q]? = H[q]?) → va_S A0 H0 H1 locs1 → W p l e R s m args below meth c H1 locs1 (cells + mc) (slots + ms) Q (F0 m (pc + 3) ls (.float r :: rest))) : W p l e R s m args below meth c H locs cells slots Q (F0 m pc ls st0) := by
  intro T hT X
  rcases hr T hT X with ⟨v, st₀, t, T', L, h0, X', hL, e1, e2, ⟨⟨r, u, hv, hp, hb⟩, hF⟩, st⟩ | ⟨q, st₀, t, T', L, E, ce, h0, X', hL, e1, e2, ⟨u, hp, hb, hF⟩, hce, hcv, hcl, st⟩
  · cases hv
    obtain ⟨k1, k2, k3⟩ := vx_keep h0 e1 hS hA hf hL hF
    obtain ⟨t2, a1, b1⟩ := kk r u t T'.heap (locs ++ L) e1.symm (by rw [← e2]; exact X'.warmed.alike) hp hb k1 k2 k3 T' rfl X'
    exact ⟨t2, st t2 a1, b1⟩
  · obtain ⟨k1, k2, k3⟩ := vx_keep h0 e1 hS hAX hf hL hF
    obtain ⟨t2, a1, b1⟩ := kx E ce q u t T'.heap (locs ++ L) e1.symm (by rw [← e2]; exact X'.warmed.alike) hp hb k1 k2 k3 (by rw [e1]; exact hce) hcv hcl T' rfl X'
    exact ⟨t2, st.trans a1, b1⟩
theorem vx_calld {S SX : Type} {post : UInt64 → S → Prop} {px : SX → Prop} {B : S → State → Prop} {BX : String → SX → State → Prop} {AX : Nat → Prop} (hr : vx_Run p l e R s m args below meth c H locs cells slots mc ms (F0 m pc ls st0) rest (va_Qd post B A1 a) (vx_X px BX AX) free) (hS : va_S A0 H0 H locs) (hA : ∀ q, q < H.size → A1 q → A0 q) (hf : ∀ q, free q → A0 q) (hAX : ∀ q, q < H.size → AX q → A0 q)
    (kx : ∀ (E : String) (ce : Cell) (q9 : Addr) (u : SX) (t : State) (H1 : Heap) (locs1 : List Loc), t.heap = H1 → s.vm.Alike t.vm → px u → BX E u t → H.size ≤ H1.size → (∀ q : Nat, q < H.size → ¬ AX q → H1[q]? = H[q]?) → va_S A0 H0 H1 locs1 → H1[q9]? = some ce → ce.vm = .none → s.vm.findClass E = some ce.cls → vx_W p l e R s m args below meth c H1 locs1 (cells + mc) (slots + ms) Q (F0 m pc ls rest) q9)
    (kk : ∀ (r : UInt64) (u : S) (t : State) (H1 : Heap) (locs1 : List Loc), t.heap = H1 → s.vm.Alike t.vm → post r u → B u t → H.size ≤ H1.size → (∀ q : Nat, q < H.size → ¬ A1 q → H1[q]? = H[q]?) → va_S A0 H0 H1 locs1 → W p l e R s m args below meth c H1 locs1 (cells + mc) (slots + ms) Q (F0 m (pc + 3) ls (.double r :: rest))) : W p l e R s m args below meth c H locs cells slots Q (F0 m pc ls st0) := by
  intro T hT X
  rcases hr T hT X with ⟨v, st₀, t, T', L, h0, X', hL, e1, e2, ⟨⟨r, u, hv, hp, hb⟩, hF⟩, st⟩ | ⟨q, st₀, t, T', L, E, ce, h0, X', hL, e1, e2, ⟨u, hp, hb, hF⟩, hce, hcv, hcl, st⟩
  · cases hv
    obtain ⟨k1, k2, k3⟩ := vx_keep h0 e1 hS hA hf hL hF
    obtain ⟨t2, a1, b1⟩ := kk r u t T'.heap (locs ++ L) e1.symm (by rw [← e2]; exact X'.warmed.alike) hp hb k1 k2 k3 T' rfl X'
    exact ⟨t2, st t2 a1, b1⟩
  · obtain ⟨k1, k2, k3⟩ := vx_keep h0 e1 hS hAX hf hL hF
    obtain ⟨t2, a1, b1⟩ := kx E ce q u t T'.heap (locs ++ L) e1.symm (by rw [← e2]; exact X'.warmed.alike) hp hb k1 k2 k3 (by rw [e1]; exact hce) hcv hcl T' rfl X'
    exact ⟨t2, st.trans a1, b1⟩
theorem vx_callv {S SX : Type} {post : S → Prop} {px : SX → Prop} {B : S → State → Prop} {BX : String → SX → State → Prop} {AX : Nat → Prop} (hr : vx_Run p l e R s m args below meth c H locs cells slots mc ms (F0 m pc ls st0) rest (va_Qv post B A1 a) (vx_X px BX AX) free) (hS : va_S A0 H0 H locs) (hA : ∀ q, q < H.size → A1 q → A0 q) (hf : ∀ q, free q → A0 q) (hAX : ∀ q, q < H.size → AX q → A0 q)
    (kx : ∀ (E : String) (ce : Cell) (q9 : Addr) (u : SX) (t : State) (H1 : Heap) (locs1 : List Loc), t.heap = H1 → s.vm.Alike t.vm → px u → BX E u t → H.size ≤ H1.size → (∀ q : Nat, q < H.size → ¬ AX q → H1[q]? = H[q]?) → va_S A0 H0 H1 locs1 → H1[q9]? = some ce → ce.vm = .none → s.vm.findClass E = some ce.cls → vx_W p l e R s m args below meth c H1 locs1 (cells + mc) (slots + ms) Q (F0 m pc ls rest) q9)
    (kk : ∀ (u : S) (t : State) (H1 : Heap) (locs1 : List Loc), t.heap = H1 → s.vm.Alike t.vm → post u → B u t → H.size ≤ H1.size → (∀ q : Nat, q < H.size → ¬ A1 q → H1[q]? = H[q]?) → va_S A0 H0 H1 locs1 → W p l e R s m args below meth c H1 locs1 (cells + mc) (slots + ms) Q (F0 m (pc + 3) ls (rest))) : W p l e R s m args below meth c H locs cells slots Q (F0 m pc ls st0) := by
  intro T hT X
  rcases hr T hT X with ⟨v, st₀, t, T', L, h0, X', hL, e1, e2, ⟨⟨u, hv, hp, hb⟩, hF⟩, st⟩ | ⟨q, st₀, t, T', L, E, ce, h0, X', hL, e1, e2, ⟨u, hp, hb, hF⟩, hce, hcv, hcl, st⟩
  · cases hv
    obtain ⟨k1, k2, k3⟩ := vx_keep h0 e1 hS hA hf hL hF
    obtain ⟨t2, a1, b1⟩ := kk u t T'.heap (locs ++ L) e1.symm (by rw [← e2]; exact X'.warmed.alike) hp hb k1 k2 k3 T' rfl X'
    exact ⟨t2, st t2 a1, b1⟩
  · obtain ⟨k1, k2, k3⟩ := vx_keep h0 e1 hS hAX hf hL hF
    obtain ⟨t2, a1, b1⟩ := kx E ce q u t T'.heap (locs ++ L) e1.symm (by rw [← e2]; exact X'.warmed.alike) hp hb k1 k2 k3 (by rw [e1]; exact hce) hcv hcl T' rfl X'
    exact ⟨t2, st.trans a1, b1⟩
/-- caught by the row x of this method's table; the rows ahead don't take it -/
theorem vx_catch {own name : String} {E : String} {ce : Cell} {q : Addr} (hown : s.vm.findClass own = some m.cls) (pre : List ExceptionTableEntry) (x : ExceptionTableEntry) (suf : List ExceptionTableEntry) (hsplit : c.exceptionTable.toList = pre ++ x :: suf)
    (hpass : ∀ z ∈ pre, covers z pc = false ∨ (z.catchType ≠ 0 ∧ ∃ nm : String, (Cond.classLink own z.catchType nm).before args s = true ∧ va_Nc E nm s)) (hx : covers x pc = true) (h0 : x.catchType ≠ 0)
    (hlink : (Cond.classLink own x.catchType name).before args s = true) (hcast : (Cond.castable E name).before args s = true) (hcell : H[q]? = some ce) (hv : ce.vm = .none) (hcl : s.vm.findClass E = some ce.cls)
    (kk : W p l e R s m args below meth c H locs cells slots Q (F0 m x.handlerPc ls [.ref q])) : vx_W p l e R s m args below meth c H locs cells slots Q (F0 m pc ls rest) q := by
  intro T hT X
  have hpl : e.platform.magicAccessors = ({} : Platform).magicAccessors := by rw [X.admits.platform]
  obtain ⟨c3, c4, hc3, hc4, hasg⟩ := Cond.castable_spec hcast
  cases Option.some.inj (hc3.symm.trans hcl)
  obtain ⟨c5, hc5, hcl5⟩ := Cond.classLink_spec hown hlink e.platform hpl
  cases Option.some.inj (hc4.symm.trans hc5)
  obtain ⟨vm', X', st⟩ := X.thenCaughtThrough q (g := F0 m pc ls rest) rfl (Steps.refl _) (by rw [hT]; exact hcell) (by rw [hv]; rfl) (by obtain ⟨k9, h9, -⟩ := Vm.findClass_spec hcl; exact ⟨k9, h9⟩) pre x suf hsplit
    (fun z hz => by
      rcases hpass z hz with h | ⟨hz0, nm, hl1, hn1⟩
      · exact Or.inl h
      · obtain ⟨c6, hc6, hcl6⟩ := Cond.classLink_spec hown hl1 e.platform hpl
        obtain ⟨a8, b8, h1, h2, h3⟩ := hn1
        cases Option.some.inj (h1.symm.trans hcl)
        cases Option.some.inj (h2.symm.trans hc6)
        exact Or.inr ⟨hz0, _, hcl6, h3⟩) hx (Or.inr ⟨h0, c4, hcl5, hasg⟩)
  obtain ⟨t, a1, b1⟩ := kk (T.setVm vm') hT X'
  exact ⟨t, st.trans a1, b1⟩
end Rows
section Ends
variable {p : Program} {l : Launch} {e : Env} {R : Room} {s : State} {m : MethodId} {args : Array Value} {below : List Frame} {meth : Method} {c : Code} {H : Heap} {locs : List Loc} {cells slots : Nat} {Q : State → Prop}
variable {mc ms : Nat} {free : Addr → Prop} {A0 A1 : Nat → Prop} {H0 : Heap} {a : Array Value} {ls : Array Slot} {st0 rest : List Value}
variable {Qc : Array Value → State → Outcome → State → Prop} {XC : String → State → State → Prop}
/-- what a body that may throw owes at its end -/
def vx_MQ (below : List Frame) (Qc : Array Value → State → Outcome → State → Prop) (XC : String → State → State → Prop) (a : Array Value) (s : State) (mc ms : Nat) (free : Addr → Prop) : State → Prop := fun t =>
  ∃ o, t.status = .running ∧ Ended t below o ∧ vx_Q Qc XC mc ms free a s o t
theorem vx_ret {g : JFrame} {mc ms : Nat} (k : W p l e R s m args below meth c H locs cells slots (MQ below Qc args s mc ms free) g) : W p l e R s m args below meth c H locs cells slots (vx_MQ below Qc XC args s mc ms free) g := by
  intro T hT X
  obtain ⟨t, a1, o, b1, b2, b3, b4⟩ := k T hT X
  exact ⟨t, a1, o, b1, b2, Or.inl ⟨b3, b4⟩⟩
/-- not caught here: it goes on to the caller -/
theorem vx_widen {g : JFrame} {q : Addr} {k n : Nat} (h1 : cells ≤ k) (h2 : slots ≤ n) (kk : vx_W p l e R s m args below meth c H locs k n Q g q) : vx_W p l e R s m args below meth c H locs cells slots Q g q := fun T hT X => kk T hT (stand_widen X h1 h2)
theorem vx_out {pc : Nat} {E : String} {ce : Cell} {q : Addr} {mc ms : Nat} (hout : ∀ x ∈ c.exceptionTable.toList, covers x pc = false) (hlocks : meth.locks = false) (hcell : H[q]? = some ce) (hv : ce.vm = .none) (hcl : s.vm.findClass E = some ce.cls)
    (hx : ∀ t : State, t.heap = H → s.vm.Alike t.vm → XC E s t) (hf : ∀ z ∈ locs, free z.base) (hc : cells ≤ mc) (hs : slots ≤ ms) :
    vx_W p l e R s m args below meth c H locs cells slots (vx_MQ below Qc XC args s mc ms free) (F0 m pc ls rest) q := by
  intro T hT X
  obtain ⟨st1, hrun, hend, hW, hsm⟩ := X.leaveThrown q (g := F0 m pc ls rest) rfl rfl rfl hout hlocks
  have hcell9 : (T.setFrames (.throwing q :: below)).heap[q]? = some ce := by
    show T.heap[q]? = some ce
    rw [hT]; exact hcell
  exact ⟨_, st1, .threw q, hrun, hend, Or.inr ⟨q, rfl, E, ce, locs, hx _ hT hW.alike, hcell9, hv, hcl, hW, hsm.mono hc hs, hf⟩⟩
theorem vx_frame {U : State} {k n : Nat} (h : s.sameButNew ({ U with vm := s.vm } : State) locs k n) : s.heap.size ≤ U.heap.size ∧ ∀ q : Nat, q < s.heap.size → (∀ z ∈ locs, z.base ≠ q) → U.heap[q]? = s.heap[q]? := by
  obtain ⟨-, h2, -, -, -, h6⟩ := h
  refine ⟨h2, fun q hq hz => ?_⟩
  obtain ⟨c9, e1, e2, e3, e4⟩ := h6 q _ (Array.getElem?_eq_getElem hq)
  have hs : c9.slots = (s.heap[q]).slots := Array.ext_getElem? fun i => e4 i fun hm => hz _ hm rfl
  have h9 : c9 = s.heap[q] := by
    rw [hs] at e2
    exact e2
  have e5 : U.heap[q]? = some c9 := e1
  rw [e5, h9, Array.getElem?_eq_getElem hq]
/-- the words of a throw but the four that speak of the heap -/
def vx_no (w : Cond) : Bool := decide (w ≠ .isRef (.static Bundle.tN "UNASSIGNED_STACK" Bundle.steD)) && decide (w ≠ .isRef (.static Bundle.tN "SUPPRESSED_SENTINEL" Bundle.listD)) && decide (w ≠ .laysStatic Bundle.tN "UNASSIGNED_STACK" Bundle.steD) && decide (w ≠ .laysStatic Bundle.tN "SUPPRESSED_SENTINEL" Bundle.listD)
def vx_at0 (own : String) (ic : Nat) (X : String) (names : List String) : List Cond := (Bundle.ownAtoms0 own ic X names).filter vx_no
def vx_atS (own : String) (ic : Nat) (X : String) (names : List String) : List Cond := (Bundle.ownAtoms own ic X names).filter vx_no
/-- a word that the tables alone decide, or a good one -/
def vx_ot (w : Cond) : Bool := w.onTables || goodWord w
theorem vx_ot_at {args a' : Array Value} {s U : State} {w : Cond} (hW : s.WarmedH U.vm) (hvm : s.vm = U.vm) (hg : vx_ot w = true) (h : w.before args s = true) : w.before a' U = true := by
  simp only [vx_ot, Bool.or_eq_true] at hg
  rcases hg with hg | hg
  · exact va_tabs hg hvm h
  · exact word_at hW (good_of_word hg) h
/-- a list's words: the good ones out of the method's own list, the others by premises of their own -/
theorem vx_hat {args : Array Value} {s : State} {L B : List Cond} (h1 : ∀ w ∈ L.filter goodWord, w.before args s = true) (h2 : ∀ w ∈ L.filter (fun w => !goodWord w), w ∈ B) (h3 : ∀ w ∈ B, w.before args s = true) : ∀ w ∈ L, w.before args s = true := by
  intro w hw
  by_cases g : goodWord w = true
  · exact h1 w (List.mem_filter.mpr ⟨hw, g⟩)
  · refine h3 w (h2 w (List.mem_filter.mpr ⟨hw, ?_⟩))
    show (!goodWord w) = true
    cases hgw : goodWord w
    · rfl
    · exact absurd hgw g
theorem vx_c {args : Array Value} {s : State} {w : Cond} {B : List Cond} (h : w.before args s = true) (t : ∀ w ∈ B, w.before args s = true) : ∀ w' ∈ w :: B, w'.before args s = true := fun w' h' => (List.mem_cons.mp h').elim (fun e => by rw [e]; exact h) (t w')
theorem vx_n {args : Array Value} {s : State} : ∀ w ∈ ([] : List Cond), w.before args s = true := fun _ h => nomatch h
theorem vx_own {args : Array Value} {s : State} {L : List Cond} (h1 : ∀ w ∈ L.filter vx_no, w.before args s = true)
    (hU : (Cond.isRef (.static Bundle.tN "UNASSIGNED_STACK" Bundle.steD)).before args s = true) (hN : (Cond.isRef (.static Bundle.tN "SUPPRESSED_SENTINEL" Bundle.listD)).before args s = true)
    (lU : (Cond.laysStatic Bundle.tN "UNASSIGNED_STACK" Bundle.steD).before args s = true) (lN : (Cond.laysStatic Bundle.tN "SUPPRESSED_SENTINEL" Bundle.listD).before args s = true) : ∀ w ∈ L, w.before args s = true := by
  intro w hw
  by_cases e1 : w = .isRef (.static Bundle.tN "UNASSIGNED_STACK" Bundle.steD)
  · rw [e1]; exact hU
  · by_cases e2 : w = .isRef (.static Bundle.tN "SUPPRESSED_SENTINEL" Bundle.listD)
    · rw [e2]; exact hN
    · by_cases e3 : w = .laysStatic Bundle.tN "UNASSIGNED_STACK" Bundle.steD
      · rw [e3]; exact lU
      · by_cases e4 : w = .laysStatic Bundle.tN "SUPPRESSED_SENTINEL" Bundle.listD
        · rw [e4]; exact lN
        · exact h1 w (List.mem_filter.mpr ⟨hw, by unfold vx_no; rw [decide_eq_true e1, decide_eq_true e2, decide_eq_true e3, decide_eq_true e4]; rfl⟩)
/-- where a static field lies, its class's statics cell in H -/
def vx_L (C n d : String) (A : Nat → Prop) (U : State) (H : Heap) : Prop := ∃ (c : ClassId) (k : Class) (i : Nat) (f : Field) (a : Nat) (cell : Cell), U.vm.findClass C = some c ∧ U.fieldFound? C n d = some (c, k, i, f) ∧ f.isStatic = true ∧ k.statics = some a ∧ H[a]? = some cell ∧ cell.vm.isStatics = true ∧ cell.cls = c ∧ f.slot < cell.slots.size ∧ k.staticTypes[f.slot]? = some f.type ∧ ¬ A a
theorem vx_L.moved {C n d : String} {A : Nat → Prop} {u U : State} {H : Heap} (hvm : u.vm.Alike U.vm) (h : vx_L C n d A u H) : vx_L C n d A U H := by
  obtain ⟨c, k, i, f, a, cell, h1, h2, h3, h4, h5, h6, h7, h8, h9, h10⟩ := h
  obtain ⟨k', hi', he⟩ := State.fieldFound?_setVm hvm h2
  exact ⟨c, k', i, f, a, cell, by rw [hvm.findClass]; exact h1, hi', h3, by rw [he]; exact h4, h5, h6, h7, h8, by rw [he]; exact h9, h10⟩
theorem vx_L.kept {C n d : String} {A : Nat → Prop} {U : State} {H H1 : Heap} (h : vx_L C n d A U H) (hq : ∀ a : Nat, a < H.size → ¬ A a → H1[a]? = H[a]?) : vx_L C n d A U H1 := by
  obtain ⟨c, k, i, f, a, cell, h1, h2, h3, h4, h5, h6, h7, h8, h9, h10⟩ := h
  exact ⟨c, k, i, f, a, cell, h1, h2, h3, h4, by rw [hq a (Array.getElem?_eq_some_iff.mp h5).1 h10]; exact h5, h6, h7, h8, h9, h10⟩
theorem vx_L.narrow {C n d : String} {A B : Nat → Prop} {U : State} {H : Heap} (h : vx_L C n d A U H) (hAB : ∀ q, B q → A q) : vx_L C n d B U H := by
  obtain ⟨c, k, i, f, a, cell, h1, h2, h3, h4, h5, h6, h7, h8, h9, h10⟩ := h
  exact ⟨c, k, i, f, a, cell, h1, h2, h3, h4, h5, h6, h7, h8, h9, fun z => h10 (hAB _ z)⟩
theorem vx_L.word {C n d : String} {A : Nat → Prop} {s : State} {args : Array Value} (h : vx_L C n d A s s.heap) : (Cond.laysStatic C n d).before args s = true := by
  obtain ⟨c, k, i, f, a, cell, h1, h2, h3, h4, h5, h6, h7, h8, h9, -⟩ := h
  show (Cond.laysStatic C n d).holds args s none s [] = true
  exact Cond.laysStatic_of h1 h2 h3 h4 h5 h6 h7 h8 h9
/-- .. and what it holds: null or some reference -/
def vx_Zq (C n d : String) (A : Nat → Prop) (U : State) (H : Heap) : Prop := va_Zq C n d A U H ∧ vx_L C n d A U H
theorem vx_Zq.moved {C n d : String} {A : Nat → Prop} {u U : State} {H : Heap} (hvm : u.vm.Alike U.vm) (h : vx_Zq C n d A u H) : vx_Zq C n d A U H := ⟨va_Zq.moved hvm h.1, vx_L.moved hvm h.2⟩
theorem vx_Zq.kept {C n d : String} {A : Nat → Prop} {U : State} {H H1 : Heap} (h : vx_Zq C n d A U H) (hq : ∀ a : Nat, a < H.size → ¬ A a → H1[a]? = H[a]?) : vx_Zq C n d A U H1 := ⟨va_Zq.kept h.1 hq, vx_L.kept h.2 hq⟩
theorem vx_Zq.narrow {C n d : String} {A B : Nat → Prop} {U : State} {H : Heap} (h : vx_Zq C n d A U H) (hAB : ∀ q, B q → A q) : vx_Zq C n d B U H := ⟨va_Zq.narrow h.1 hAB, vx_L.narrow h.2 hAB⟩
theorem vx_Zqof {args : Array Value} {s : State} {C n d : String} {A : Nat → Prop} (hl : (Cond.laysStatic C n d).before args s = true) (hini : (Cond.initialized C).before args s = true) (h : (Cond.isRef (.static C n d)).before args s = true) (hA : ∀ a : Nat, a < s.heap.size → ¬ A a) : vx_Zq C n d A s s.heap := by
  refine ⟨va_Zqof hl hini h hA, ?_⟩
  obtain ⟨c, k, i, f, a, cell, h1, h2, h3, h4, h5, h6, h7, h8, h9⟩ := Cond.laysStatic_spec hl
  exact ⟨c, k, i, f, a, cell, h1, h2, h3, h4, h5, h6, h7, h8, h9, hA a (Array.getElem?_eq_some_iff.mp h5).1⟩
theorem vx_isRef {C n d : String} {v : Value} {A : Nat → Prop} {s : State} {args : Array Value} (h : va_Z C n d v A s s.heap) (hv : v.isRef = true) : (Cond.isRef (.static C n d)).before args s = true := by
  obtain ⟨cf, kf, fi, f, a, cell, h1, h2, h3, h4, h5, h6, h7, -⟩ := h
  have he : (Term.static C n d).eval args s none [] s = some v := by
    simp [Term.eval, State.fieldNamed?, h1, h2, h4, h5, h6, h7]
  simp only [Cond.before, Cond.holds, Cond.value, he]
  cases v <;> simp_all [Value.isRef]
theorem vx_isRefq {C n d : String} {A : Nat → Prop} {s : State} {args : Array Value} (h : va_Zq C n d A s s.heap) : (Cond.isRef (.static C n d)).before args s = true := by
  rcases h with h | ⟨t, h⟩
  · exact vx_isRef h rfl
  · exact vx_isRef h rfl
/-- the same frame, seen from here: as if the method were called anew in this heap -/
theorem vx_rebase {T : State} (X : Stand p l e R s m args below meth c T locs cells slots) {R' : Room} (hf : R'.frames ≤ R.frames) (hl : R'.locals ≤ R.locals) (hc : cells + R'.cells ≤ R.cells) (hs : slots + R'.slots ≤ R.slots) :
    Stand p l e R' ((T.setVm s.vm).setFrames (.invoking m args :: below)) m args below meth c T [] 0 0 := by
  have htop : (T.setVm s.vm).topJava?.isSome := X.here.top
  have hF : ((T.setVm s.vm).setFrames (.invoking m args :: below)).frames = .invoking m args :: below := State.frames_setFrames _ (State.cur_lt_of_top htop)
  obtain ⟨g₀, hg0⟩ := Option.isSome_iff_exists.mp htop
  obtain ⟨r, hr⟩ := State.topJava?_eq_some.mp hg0
  have hl9 : e.platform.stackLimits (T.setVm s.vm).me = e.platform.stackLimits s.me := X.limits
  have hb9 : (T.setVm s.vm).me.stackBytes = s.me.stackBytes := X.bytes
  refine ⟨X.admits, X.cas, X.clock, hF, ?_, X.hears, X.method, X.code, X.here, X.tail, X.warmed, ?_, ?_, ?_⟩
  · have h := X.room
    have hU : ((T.setVm s.vm).setFrames (.invoking m args :: below)).localsInUse = s.localsInUse := by
      rw [State.localsInUse_invoking hF (meth := meth) (c := c) X.method X.code, State.localsInUse_invoking X.frames X.method X.code]
    simp only [State.hasRoom, Bool.and_eq_true, decide_eq_true_eq] at h ⊢
    obtain ⟨⟨⟨⟨h1, h2, h3, h4, h5, h6⟩, h7⟩, h8⟩, h9⟩ := h
    rw [X.frames, List.length_cons] at h2 h3
    have q1 := X.heapSize
    have q2 := X.used
    simp only [hF, hU, List.length_cons, State.stackLimits_setFrames, State.stackBytes_setFrames, hl9, hb9]
    refine ⟨⟨⟨⟨by omega, by omega, by omega, by omega, by omega, h6⟩, ?_⟩, ?_⟩, X.book⟩
    · show T.heap.size + R'.cells ≤ e.platform.maxCells
      omega
    · show T.slotsUsed + R'.slots ≤ e.platform.maxSlots
      omega
  · rw [State.stackLimits_setFrames]; rfl
  · rw [State.stackBytes_setFrames]; rfl
  · refine ⟨?_, Nat.le_refl _, Nat.le_refl _, ?_, ?_, fun a c9 h9 => ⟨c9, h9, rfl, rfl, fun _ _ => rfl⟩⟩
    · obtain ⟨t, ht, -⟩ := State.frames_cons hr
      show T.setVm s.vm = { ((T.setVm s.vm).setFrames (.invoking m args :: below)).setFrames (T.setVm s.vm).frames with heap := T.heap, slotsUsed := T.slotsUsed }
      rw [State.setFrames_setFrames, State.setFrames_self ht]
      rfl
    · show T.slotsUsed = T.slotsUsed + ((T.heap.toList.drop T.heap.size).map (·.slots.size)).sum
      rw [List.drop_eq_nil_of_le (Nat.le_of_eq Array.length_toList)]
      rfl
    · show ((T.heap.toList.drop T.heap.size).map (·.slots.size)).sum ≤ 0
      rw [List.drop_eq_nil_of_le (Nat.le_of_eq Array.length_toList)]
      exact Nat.le_refl _
/-- 'throw new E()': new; dup; invokespecial; athrow -/
theorem vx_throw0 {cc : ByteArray} {pc : Nat} (hexec : p.tables.exec = Jvm.exec) (hb : c.code = cc) (hl : l.stackTraces = false) {own cls : String} {names : List String} {ik ic mc ms : Nat} {A : Nat → Prop}
    (hown : s.vm.findClass own = some m.cls) (hcls : Bundle.fit cls = true) (hnames : ∀ n ∈ names, Bundle.fit n = true)
    (hk : (Cond.classLink own ik cls).before args s = true) (hini : (Cond.initialized cls).before args s = true) (hat : ∀ w ∈ vx_at0 own ic cls names, w.before args s = true)
    (hgood : ∀ w ∈ Cond.classLink own ik cls :: Cond.initialized cls :: vx_at0 own ic cls names, vx_ot w = true)
    (hU : vx_Zq Bundle.tN "UNASSIGNED_STACK" Bundle.steD A s s.heap) (hN : vx_Zq Bundle.tN "SUPPRESSED_SENTINEL" Bundle.listD A s s.heap) (hS : va_S A s.heap H locs) (hsize : ls.size = c.maxLocals)
    (d0 : decode cc pc = .ok (.new ik, 3)) (d3 : decode cc (pc + 3) = .ok (.dup, 1)) (d4 : decode cc (pc + 4) = .ok (.invokespecial ic, 3)) (d7 : decode cc (pc + 7) = .ok (.athrow, 1))
    (hout : ∀ x ∈ c.exceptionTable.toList, covers x (pc + 7) = false)
    (hRframes : names.length + 3 < R.frames) (hRlocals : (rest.map fun v => v.category).sum + (13 * (names.length + 1) + 42) ≤ R.locals) (hRcells : cells + 1 ≤ R.cells) (hRslots : slots + 6 ≤ R.slots) (hlocks : meth.locks = false)
    (hx : ∀ t : State, s.vm.Alike t.vm → H.size ≤ t.heap.size → (∀ q : Nat, q < H.size → t.heap[q]? = H[q]?) → XC cls s t)
    (hf : ∀ z ∈ locs, free z.base) (hc : cells + 1 ≤ mc) (hs : slots + 6 ≤ ms) :
    W p l e R s m args below meth c H locs cells slots (vx_MQ below Qc XC args s mc ms free) (F0 m pc ls rest) := by
  intro T hT X
  have htr : e.platform.stackTraces = false := (show e.platform.stackTraces = l.stackTraces by rw [X.admits.platform]).trans hl
  have Y := vx_rebase X (R' := { frames := R.frames, locals := R.locals, cells := 1, slots := 6 }) (Nat.le_refl _) (Nat.le_refl _) hRcells hRslots
  obtain ⟨s', hA⟩ : ∃ z, z = (T.setVm s.vm).setFrames (.invoking m args :: below) := ⟨_, rfl⟩
  rw [← hA] at Y
  have hvm : s'.vm = s.vm := by rw [hA]; rfl
  have hhp : s'.heap = H := by rw [hA]; exact hT
  have hW0 : s.WarmedH s'.vm := by rw [hvm]; exact State.WarmedH.refl s
  have hat' : ∀ w ∈ vx_at0 own ic cls names, w.before args s' = true := fun w hw => vx_ot_at hW0 hvm.symm (hgood w (List.mem_cons_of_mem _ (List.mem_cons_of_mem _ hw))) (hat w hw)
  have hk' : (Cond.classLink own ik cls).before args s' = true := vx_ot_at hW0 hvm.symm (hgood _ List.mem_cons_self) hk
  have hini' : (Cond.initialized cls).before args s' = true := vx_ot_at hW0 hvm.symm (hgood _ (List.mem_cons_of_mem _ List.mem_cons_self)) hini
  have hU' : vx_Zq Bundle.tN "UNASSIGNED_STACK" Bundle.steD A s' s'.heap := by rw [hhp]; exact vx_Zq.moved hW0.alike (hU.kept hS.2.1)
  have hN' : vx_Zq Bundle.tN "SUPPRESSED_SENTINEL" Bundle.listD A s' s'.heap := by rw [hhp]; exact vx_Zq.moved hW0.alike (hN.kept hS.2.1)
  have h : ∀ w ∈ Bundle.ownAtoms0 own ic cls names, w.before args s' = true := vx_own hat' (vx_isRefq hU'.1) (vx_isRefq hN'.1) hU'.2.word hN'.2.word
  have hown' : s'.vm.findClass own = some m.cls := by rw [hvm]; exact hown
  have hins : (Cond.instantiable cls 6).before args s' = true := h _ (by simp [Bundle.ownAtoms0])
  obtain ⟨vm₁, cX, kX, hfX, hkX, -, -, X₁, st1⟩ := Y.newCold hexec (own := own) (C := cls) (index := ik) (n := 6) hown' hk' hins hini'
    (g := F0 m pc ls rest) rfl (by rw [hb]; exact d0) (Nat.le_refl _) (Nat.le_refl _)
  generalize hT1 : (T.setVm vm₁).pushCell { cls := cX, slots := kX.instanceTypes.map defaultValue, vm := .none } = T1 at X₁ st1
  have hcat : (Value.ref T.heap.size).category = 1 := rfl
  have hcellA : T1.heap[T.heap.size]? = some (freshCell cX kX) := by rw [← hT1]; exact State.heap_pushCell_size _ _
  have d3' : decode c.code (pc + 3) = .ok (.dup, 1) := by rw [hb]; exact d3
  obtain ⟨U, hsteps, hrun, hend, hW, hsame, ce, hce, hO⟩ := X₁.ctorThrow0 hexec htr (own := own) (cls := cls) (names := names) (ic := ic) hown' hcls hnames h (fun x hx => nomatch hx) hfX hkX hcellA (by rw [hhp, hT]; exact Nat.le_refl _)
    (g := { method := m, pc := pc + 4, locals := ls, stack := .ref T.heap.size :: .ref T.heap.size :: rest, locked := none }) rfl hsize rfl rfl (rest := rest) rfl
    (by rw [hb]; exact d4) (by rw [hb]; exact d7) hout hRframes (by simp only [List.map_cons, List.sum_cons, hcat]; omega) hlocks
  obtain ⟨f1, f2⟩ := vx_frame hsame
  rw [hhp] at f1 f2
  have hWs : s.WarmedH U.vm := State.WarmedH.trans hW0 hW
  have hcl : s.vm.findClass cls = some ce.cls := by
    have h9 := hO.cls
    rw [hvm] at h9
    exact h9
  have hall : s.sameButNew ({ U with vm := s.vm } : State) locs mc ms := by
    subst hA
    obtain ⟨e1, e2⟩ := hsame
    rw [State.setFrames_setFrames] at e1
    have h2 : (T.setVm s.vm).sameButNew ({ U with vm := s.vm } : State) [] (0 + 1) (0 + 6) := ⟨e1, e2⟩
    have h3 := X.same.trans h2
    rw [List.append_nil] at h3
    exact h3.mono hc hs
  refine ⟨U, ?_, .threw T.heap.size, hrun, hend, Or.inr ⟨T.heap.size, rfl, cls, ce, locs, hx U hWs.alike f1 (fun q hq => f2 q hq (fun z hz => nomatch hz)), hce, hO.vm, hcl, hWs, hall, hf⟩⟩
  refine st1 _ ?_
  show Steps p.tables e below (T1.setTop { method := m, pc := pc + 3, locals := ls, stack := .ref T.heap.size :: rest, locked := none }) _
  jvm_step X₁.here [X₁.here.top, hexec, d3', Value.category]
  exact hsteps
/-- 'throw new E("text")': new; dup; ldc; invokespecial; athrow -/
theorem vx_throwS {cc : ByteArray} {pc : Nat} (hexec : p.tables.exec = Jvm.exec) (hb : c.code = cc) (hl : l.stackTraces = false) {own cls text : String} {names : List String} {ik is ic mc ms sa : Nat} {A : Nat → Prop}
    (hown : s.vm.findClass own = some m.cls) (hcls : Bundle.fit cls = true) (hnames : ∀ n ∈ names, Bundle.fit n = true)
    (hk : (Cond.classLink own ik cls).before args s = true) (hini : (Cond.initialized cls).before args s = true) (hstr : vk_R own is text sa s) (hat : ∀ w ∈ vx_atS own ic cls names, w.before args s = true)
    (hgood : ∀ w ∈ Cond.classLink own ik cls :: Cond.initialized cls :: vx_atS own ic cls names, vx_ot w = true)
    (hU : vx_Zq Bundle.tN "UNASSIGNED_STACK" Bundle.steD A s s.heap) (hN : vx_Zq Bundle.tN "SUPPRESSED_SENTINEL" Bundle.listD A s s.heap) (hS : va_S A s.heap H locs) (hsize : ls.size = c.maxLocals)
    (d0 : decode cc pc = .ok (.new ik, 3)) (d3 : decode cc (pc + 3) = .ok (.dup, 1)) (d4 : decode cc (pc + 4) = .ok (.ldc is, 2)) (d6 : decode cc (pc + 6) = .ok (.invokespecial ic, 3)) (d9 : decode cc (pc + 9) = .ok (.athrow, 1))
    (hout : ∀ x ∈ c.exceptionTable.toList, covers x (pc + 9) = false)
    (hRframes : names.length + 3 < R.frames) (hRlocals : (rest.map fun v => v.category).sum + (13 * (names.length + 1) + 43) ≤ R.locals) (hRcells : cells + 1 ≤ R.cells) (hRslots : slots + 6 ≤ R.slots) (hlocks : meth.locks = false)
    (hx : ∀ t : State, s.vm.Alike t.vm → H.size ≤ t.heap.size → (∀ q : Nat, q < H.size → t.heap[q]? = H[q]?) → XC cls s t)
    (hf : ∀ z ∈ locs, free z.base) (hc : cells + 1 ≤ mc) (hs : slots + 6 ≤ ms) :
    W p l e R s m args below meth c H locs cells slots (vx_MQ below Qc XC args s mc ms free) (F0 m pc ls rest) := by
  intro T hT X
  have htr : e.platform.stackTraces = false := (show e.platform.stackTraces = l.stackTraces by rw [X.admits.platform]).trans hl
  have Y := vx_rebase X (R' := { frames := R.frames, locals := R.locals, cells := 1, slots := 6 }) (Nat.le_refl _) (Nat.le_refl _) hRcells hRslots
  obtain ⟨s', hA⟩ : ∃ z, z = (T.setVm s.vm).setFrames (.invoking m args :: below) := ⟨_, rfl⟩
  rw [← hA] at Y
  have hvm : s'.vm = s.vm := by rw [hA]; rfl
  have hhp : s'.heap = H := by rw [hA]; exact hT
  have hW0 : s.WarmedH s'.vm := by rw [hvm]; exact State.WarmedH.refl s
  have hat' : ∀ w ∈ vx_atS own ic cls names, w.before args s' = true := fun w hw => vx_ot_at hW0 hvm.symm (hgood w (List.mem_cons_of_mem _ (List.mem_cons_of_mem _ hw))) (hat w hw)
  have hk' : (Cond.classLink own ik cls).before args s' = true := vx_ot_at hW0 hvm.symm (hgood _ List.mem_cons_self) hk
  have hini' : (Cond.initialized cls).before args s' = true := vx_ot_at hW0 hvm.symm (hgood _ (List.mem_cons_of_mem _ List.mem_cons_self)) hini
  have hU' : vx_Zq Bundle.tN "UNASSIGNED_STACK" Bundle.steD A s' s'.heap := by rw [hhp]; exact vx_Zq.moved hW0.alike (hU.kept hS.2.1)
  have hN' : vx_Zq Bundle.tN "SUPPRESSED_SENTINEL" Bundle.listD A s' s'.heap := by rw [hhp]; exact vx_Zq.moved hW0.alike (hN.kept hS.2.1)
  have h : ∀ w ∈ Bundle.ownAtoms own ic cls names, w.before args s' = true := vx_own hat' (vx_isRefq hU'.1) (vx_isRefq hN'.1) hU'.2.word hN'.2.word
  have hown' : s'.vm.findClass own = some m.cls := by rw [hvm]; exact hown
  have hins : (Cond.instantiable cls 6).before args s' = true := h _ (by simp [Bundle.ownAtoms])
  obtain ⟨vm₁, cX, kX, hfX, hkX, -, -, X₁, st1⟩ := Y.newCold hexec (own := own) (C := cls) (index := ik) (n := 6) hown' hk' hins hini'
    (g := F0 m pc ls rest) rfl (by rw [hb]; exact d0) (Nat.le_refl _) (Nat.le_refl _)
  generalize hT1 : (T.setVm vm₁).pushCell { cls := cX, slots := kX.instanceTypes.map defaultValue, vm := .none } = T1 at X₁ st1
  have hcat : (Value.ref T.heap.size).category = 1 := rfl
  have hcellA : T1.heap[T.heap.size]? = some (freshCell cX kX) := by rw [← hT1]; exact State.heap_pushCell_size _ _
  have d3' : decode c.code (pc + 3) = .ok (.dup, 1) := by rw [hb]; exact d3
  have d4' : decode c.code (pc + 4) = .ok (.ldc is, 2) := by rw [hb]; exact d4
  have hstr' : vk_R own is text sa s' := vk_R.warm hW0 hstr
  obtain ⟨U, hsteps, hrun, hend, hW, hsame, ce, hce, hO⟩ := X₁.ctorThrowS hexec htr (own := own) (cls := cls) (names := names) (ic := ic) hown' hcls hnames h (fun x hx => nomatch hx) hfX hkX hcellA (by rw [hhp, hT]; exact Nat.le_refl _) (msg := .ref sa) rfl
    (g := { method := m, pc := pc + 6, locals := ls, stack := .ref sa :: .ref T.heap.size :: .ref T.heap.size :: rest, locked := none }) rfl hsize rfl rfl (rest := rest) rfl
    (by rw [hb]; exact d6) (by rw [hb]; exact d9) hout hRframes (by simp only [List.map_cons, List.sum_cons, hcat]; omega) hlocks
  obtain ⟨f1, f2⟩ := vx_frame hsame
  rw [hhp] at f1 f2
  have hWs : s.WarmedH U.vm := State.WarmedH.trans hW0 hW
  have hcl : s.vm.findClass cls = some ce.cls := by
    have h9 := hO.cls
    rw [hvm] at h9
    exact h9
  have hall : s.sameButNew ({ U with vm := s.vm } : State) locs mc ms := by
    subst hA
    obtain ⟨e1, e2⟩ := hsame
    rw [State.setFrames_setFrames] at e1
    have h2 : (T.setVm s.vm).sameButNew ({ U with vm := s.vm } : State) [] (0 + 1) (0 + 6) := ⟨e1, e2⟩
    have h3 := X.same.trans h2
    rw [List.append_nil] at h3
    exact h3.mono hc hs
  refine ⟨U, ?_, .threw T.heap.size, hrun, hend, Or.inr ⟨T.heap.size, rfl, cls, ce, locs, hx U hWs.alike f1 (fun q hq => f2 q hq (fun z hz => nomatch hz)), hce, hO.vm, hcl, hWs, hall, hf⟩⟩
  refine st1 _ ?_
  show Steps p.tables e below (T1.setTop { method := m, pc := pc + 3, locals := ls, stack := .ref T.heap.size :: rest, locked := none }) _
  jvm_step X₁.here [X₁.here.top, hexec, d3', Value.category]
  exact X₁.ldcString hexec (own := own) (text := text) (index := is) (a := sa) hown' hstr'.1 hstr'.2
    (g := { method := m, pc := pc + 4, locals := ls, stack := .ref T.heap.size :: .ref T.heap.size :: rest, locked := none }) rfl d4' _ hsteps
/-- 'throw new E("text")', the text by a wide index -/
theorem vx_throwSW {cc : ByteArray} {pc : Nat} (hexec : p.tables.exec = Jvm.exec) (hb : c.code = cc) (hl : l.stackTraces = false) {own cls text : String} {names : List String} {ik is ic mc ms sa : Nat} {A : Nat → Prop}
    (hown : s.vm.findClass own = some m.cls) (hcls : Bundle.fit cls = true) (hnames : ∀ n ∈ names, Bundle.fit n = true)
    (hk : (Cond.classLink own ik cls).before args s = true) (hini : (Cond.initialized cls).before args s = true) (hstr : vk_R own is text sa s) (hat : ∀ w ∈ vx_atS own ic cls names, w.before args s = true)
    (hgood : ∀ w ∈ Cond.classLink own ik cls :: Cond.initialized cls :: vx_atS own ic cls names, vx_ot w = true)
    (hU : vx_Zq Bundle.tN "UNASSIGNED_STACK" Bundle.steD A s s.heap) (hN : vx_Zq Bundle.tN "SUPPRESSED_SENTINEL" Bundle.listD A s s.heap) (hS : va_S A s.heap H locs) (hsize : ls.size = c.maxLocals)
    (d0 : decode cc pc = .ok (.new ik, 3)) (d3 : decode cc (pc + 3) = .ok (.dup, 1)) (d4 : decode cc (pc + 4) = .ok (.ldc_w is, 3)) (d7 : decode cc (pc + 7) = .ok (.invokespecial ic, 3)) (d10 : decode cc (pc + 10) = .ok (.athrow, 1))
    (hout : ∀ x ∈ c.exceptionTable.toList, covers x (pc + 10) = false)
    (hRframes : names.length + 3 < R.frames) (hRlocals : (rest.map fun v => v.category).sum + (13 * (names.length + 1) + 43) ≤ R.locals) (hRcells : cells + 1 ≤ R.cells) (hRslots : slots + 6 ≤ R.slots) (hlocks : meth.locks = false)
    (hx : ∀ t : State, s.vm.Alike t.vm → H.size ≤ t.heap.size → (∀ q : Nat, q < H.size → t.heap[q]? = H[q]?) → XC cls s t)
    (hf : ∀ z ∈ locs, free z.base) (hc : cells + 1 ≤ mc) (hs : slots + 6 ≤ ms) :
    W p l e R s m args below meth c H locs cells slots (vx_MQ below Qc XC args s mc ms free) (F0 m pc ls rest) := by
  intro T hT X
  have htr : e.platform.stackTraces = false := (show e.platform.stackTraces = l.stackTraces by rw [X.admits.platform]).trans hl
  have Y := vx_rebase X (R' := { frames := R.frames, locals := R.locals, cells := 1, slots := 6 }) (Nat.le_refl _) (Nat.le_refl _) hRcells hRslots
  obtain ⟨s', hA⟩ : ∃ z, z = (T.setVm s.vm).setFrames (.invoking m args :: below) := ⟨_, rfl⟩
  rw [← hA] at Y
  have hvm : s'.vm = s.vm := by rw [hA]; rfl
  have hhp : s'.heap = H := by rw [hA]; exact hT
  have hW0 : s.WarmedH s'.vm := by rw [hvm]; exact State.WarmedH.refl s
  have hat' : ∀ w ∈ vx_atS own ic cls names, w.before args s' = true := fun w hw => vx_ot_at hW0 hvm.symm (hgood w (List.mem_cons_of_mem _ (List.mem_cons_of_mem _ hw))) (hat w hw)
  have hk' : (Cond.classLink own ik cls).before args s' = true := vx_ot_at hW0 hvm.symm (hgood _ List.mem_cons_self) hk
  have hini' : (Cond.initialized cls).before args s' = true := vx_ot_at hW0 hvm.symm (hgood _ (List.mem_cons_of_mem _ List.mem_cons_self)) hini
  have hU' : vx_Zq Bundle.tN "UNASSIGNED_STACK" Bundle.steD A s' s'.heap := by rw [hhp]; exact vx_Zq.moved hW0.alike (hU.kept hS.2.1)
  have hN' : vx_Zq Bundle.tN "SUPPRESSED_SENTINEL" Bundle.listD A s' s'.heap := by rw [hhp]; exact vx_Zq.moved hW0.alike (hN.kept hS.2.1)
  have h : ∀ w ∈ Bundle.ownAtoms own ic cls names, w.before args s' = true := vx_own hat' (vx_isRefq hU'.1) (vx_isRefq hN'.1) hU'.2.word hN'.2.word
  have hown' : s'.vm.findClass own = some m.cls := by rw [hvm]; exact hown
  have hins : (Cond.instantiable cls 6).before args s' = true := h _ (by simp [Bundle.ownAtoms])
  obtain ⟨vm₁, cX, kX, hfX, hkX, -, -, X₁, st1⟩ := Y.newCold hexec (own := own) (C := cls) (index := ik) (n := 6) hown' hk' hins hini'
    (g := F0 m pc ls rest) rfl (by rw [hb]; exact d0) (Nat.le_refl _) (Nat.le_refl _)
  generalize hT1 : (T.setVm vm₁).pushCell { cls := cX, slots := kX.instanceTypes.map defaultValue, vm := .none } = T1 at X₁ st1
  have hcat : (Value.ref T.heap.size).category = 1 := rfl
  have hcellA : T1.heap[T.heap.size]? = some (freshCell cX kX) := by rw [← hT1]; exact State.heap_pushCell_size _ _
  have d3' : decode c.code (pc + 3) = .ok (.dup, 1) := by rw [hb]; exact d3
  have d4' : decode c.code (pc + 4) = .ok (.ldc_w is, 3) := by rw [hb]; exact d4
  have hstr' : vk_R own is text sa s' := vk_R.warm hW0 hstr
  obtain ⟨U, hsteps, hrun, hend, hW, hsame, ce, hce, hO⟩ := X₁.ctorThrowS hexec htr (own := own) (cls := cls) (names := names) (ic := ic) hown' hcls hnames h (fun x hx => nomatch hx) hfX hkX hcellA (by rw [hhp, hT]; exact Nat.le_refl _) (msg := .ref sa) rfl
    (g := { method := m, pc := pc + 7, locals := ls, stack := .ref sa :: .ref T.heap.size :: .ref T.heap.size :: rest, locked := none }) rfl hsize rfl rfl (rest := rest) rfl
    (by rw [hb]; exact d7) (by rw [hb]; exact d10) hout hRframes (by simp only [List.map_cons, List.sum_cons, hcat]; omega) hlocks
  obtain ⟨f1, f2⟩ := vx_frame hsame
  rw [hhp] at f1 f2
  have hWs : s.WarmedH U.vm := State.WarmedH.trans hW0 hW
  have hcl : s.vm.findClass cls = some ce.cls := by
    have h9 := hO.cls
    rw [hvm] at h9
    exact h9
  have hall : s.sameButNew ({ U with vm := s.vm } : State) locs mc ms := by
    subst hA
    obtain ⟨e1, e2⟩ := hsame
    rw [State.setFrames_setFrames] at e1
    have h2 : (T.setVm s.vm).sameButNew ({ U with vm := s.vm } : State) [] (0 + 1) (0 + 6) := ⟨e1, e2⟩
    have h3 := X.same.trans h2
    rw [List.append_nil] at h3
    exact h3.mono hc hs
  refine ⟨U, ?_, .threw T.heap.size, hrun, hend, Or.inr ⟨T.heap.size, rfl, cls, ce, locs, hx U hWs.alike f1 (fun q hq => f2 q hq (fun z hz => nomatch hz)), hce, hO.vm, hcl, hWs, hall, hf⟩⟩
  refine st1 _ ?_
  show Steps p.tables e below (T1.setTop { method := m, pc := pc + 3, locals := ls, stack := .ref T.heap.size :: rest, locked := none }) _
  jvm_step X₁.here [X₁.here.top, hexec, d3', Value.category]
  exact X₁.ldcStringW hexec (own := own) (text := text) (index := is) (a := sa) hown' hstr'.1 hstr'.2
    (g := { method := m, pc := pc + 4, locals := ls, stack := .ref T.heap.size :: .ref T.heap.size :: rest, locked := none }) rfl d4' _ hsteps
end Ends
section Bodies
variable {l : Launch}
theorem vx_ofW {y : MethodName} {ws ws' : List Cond} {rm : Room} {Pc : Array Value → State → Prop} {Qc : Array Value → State → Outcome → State → Prop} {XC : String → State → State → Prop} {mc ms : Nat} {free : Addr → Prop} {cc : ByteArray} {maxL : Nat} {ret : Option FieldType}
    (hy : plainName y.cls = true) (hw : ws = Cond.code y cc maxL ret :: ws')
    (body : ∀ p e s m args below meth c s₁, BodyLoose p l y (headSpec ws rm) cc maxL ret e s m args below meth c s₁ → c.maxLocals = maxL → (∀ x ∈ c.exceptionTable.toList, False) → Pc args s →
      W p l e (headSpec ws rm).room s m args below meth c s.heap [] 0 0 (vx_MQ below Qc XC args s mc ms free) (entryFrame m args maxL)) : vx_Met l y ws rm Pc Qc XC mc ms free := by
  refine MetFree.of_bodyS (code := cc) (maxLocals := maxL) (ret := ret) hy ?_ ?_
  · intro args s m h hn
    obtain ⟨meth, c, h1, h2, h3, h4, h5, h6, -, -⟩ := Cond.code_spec hn (atoms_spec (ws := ws) h _ (by rw [hw]; exact List.mem_cons_self))
    exact ⟨meth, c, h1, h2, h3, h4, h5, h6⟩
  · intro p e s m args below meth c s₁ B hml hP _
    have hh0 : s₁.heap = s.heap := by rw [B.state]; rfl
    have ht : ∀ x ∈ c.exceptionTable.toList, False := by
      obtain ⟨meth9, c9, h1, h2, -, -, -, -, h7, -⟩ := Cond.code_spec B.named (atoms_spec (ws := ws) B.pre _ (by rw [hw]; exact List.mem_cons_self))
      cases Option.some.inj (h1.symm.trans B.method)
      cases Option.some.inj (h2.symm.trans (Stand.of_body B).code)
      intro x hx
      rw [Array.isEmpty_iff.mp h7] at hx
      cases hx
    obtain ⟨t, a1, o, b1, b2, b3⟩ := body p e s m args below meth c s₁ B hml ht hP s₁ hh0 (Stand.of_body B)
    exact ⟨t, o, a1, b1, b2, b3⟩
/-- the table of a body with handlers -/
theorem vx_table {p : Program} {x y : MethodName} {S : Spec} {cc bytes : ByteArray} {maxL maxL' : Nat} {ret ret' : Option FieldType} {e : Env} {s s₁ : State} {m : MethodId} {args : Array Value} {below : List Frame} {meth : Method} {c : Code} {hh : List (Nat × Nat × Nat × Nat)}
    (B : BodyLoose p l y S cc maxL ret e s m args below meth c s₁) (h : (Cond.codeWith y bytes maxL' ret' hh).before args s = true) : c.exceptionTable.toList = tableOf hh := by
  obtain ⟨m9, meth9, c9, hn9, h1, h2, -, -, h6, -⟩ := Cond.codeWith_spec h
  cases Option.some.inj (hn9.symm.trans B.named)
  cases Option.some.inj (h1.symm.trans B.method)
  cases Option.some.inj (h2.symm.trans (Stand.of_body B).code)
  rw [← h6, table_eq]
end Bodies
end VXA
/-! ===== END ===== -/
/-! ===== BEGIN a static call of a method with an exception table ===== -/
section VXS
variable {p : Program} {l : Launch} {e : Env} {R : Room} {s : State} {m : MethodId} {args : Array Value} {below : List Frame} {meth : Method} {c : Code} {T : State} {H : Heap} {locs : List Loc} {cells slots : Nat}
abbrev vx_CSW (R : Room) (s : State) (args : Array Value) (own : String) (index : Nat) (y : MethodName) (bytes : ByteArray) (maxL : Nat) (ret : Option FieldType) (hh : List (Nat × Nat × Nat × Nat)) (ws : List Cond) (rm : Room) (mc ms n : Nat) : Prop :=
  (rm.cells = mc ∧ rm.slots = ms ∧ rm.frames + 1 ≤ R.frames ∧ 8 + (maxL + 11) + rm.locals ≤ R.locals ∧ (∀ w ∈ ws, ∀ (a' : Array Value) (U : State), s.WarmedH U.vm → w.before a' U = true) ∧ Cond.codeWith y bytes maxL ret hh ∈ ws) ∧
  (Cond.codeWith y bytes maxL ret hh).before args s = true ∧ (Cond.initialized y.cls).before args s = true ∧ (y.cls ≠ "java/lang/invoke/MethodHandle" ∧ y.cls ≠ "java/lang/invoke/VarHandle") ∧
  (∀ sig, parseMethodDescriptor y.desc = some sig → n = sig.parameters.length) ∧ (Cond.methodLink own index y).before args s = true ∧ (Cond.static y).before args s = true
theorem vx_cwSW {own : String} {index maxL mc ms : Nat} {y : MethodName} {bytes : ByteArray} {ret : Option FieldType} {hh : List (Nat × Nat × Nat × Nat)} {Ts ws ws' : List Cond} {rm : Room} (n : Nat) (ht : ∀ w ∈ Ts, w.before args s = true) (hT : GoodIn Ts (va_wsS own index y ws)) (hw : ws = Cond.codeWith y bytes maxL ret hh :: ws') (hrc : rm.cells = mc) (hrs : rm.slots = ms)
    (hd : y.cls ≠ "java/lang/invoke/MethodHandle" ∧ y.cls ≠ "java/lang/invoke/VarHandle" ∧ (parseMethodDescriptor y.desc).map (fun d => d.parameters.length) = some n) (hR : rm.frames + 1 ≤ R.frames ∧ 8 + (maxL + 11) + rm.locals ≤ R.locals) :
    vx_CSW R s args own index y bytes maxL ret hh ws rm mc ms n := by
  have ok : ∀ w ∈ va_wsS own index y ws, w.before args s = true := fun w h => ht w (hT w h).1
  have hG : GoodIn Ts ws := fun w h => hT w (by unfold va_wsS; exact List.mem_append_right _ h)
  have hc : Cond.codeWith y bytes maxL ret hh ∈ ws := by rw [hw]; exact List.mem_cons_self
  refine ⟨⟨hrc, hrs, hR.1, hR.2, pay_in ht hG, hc⟩, ht _ (hG _ hc).1, ok _ (by simp [va_wsS]), ⟨hd.1, hd.2.1⟩, fun sig h => ?_, ok _ (by simp [va_wsS]), ok _ (by simp [va_wsS])⟩
  have h2 := hd.2.2
  rw [h] at h2
  exact (Option.some.inj h2).symm
theorem vx_callSW (X : Stand p l e R s m args below meth c T locs cells slots) (hexec : p.tables.exec = Jvm.exec) {own : String} {index : Nat} {y : MethodName} {bytes : ByteArray} {maxL : Nat} {ret : Option FieldType} {hh : List (Nat × Nat × Nat × Nat)}
    (hown : s.vm.findClass own = some m.cls) (hlink : (Cond.methodLink own index y).before args s = true) (hstat : (Cond.static y).before args s = true) (hinit : (Cond.initialized y.cls).before args s = true)
    (hcode : (Cond.codeWith y bytes maxL ret hh).before args s = true) (hy : y.cls ≠ "java/lang/invoke/MethodHandle" ∧ y.cls ≠ "java/lang/invoke/VarHandle")
    {W9 : Nat} {Pre : Pt → Array Value → Prop} {Post : Pt → Array Value → Option Value → Pt → Prop} (hK : Back l R p e below s args y 3 W9 Pre Post)
    {g : JFrame} (hg : g.method = m) (hsize : g.locals.size = c.maxLocals) {argsL rest : List Value} (hlen : ∀ sig, parseMethodDescriptor y.desc = some sig → argsL.length = sig.parameters.length)
    (hstack : g.stack = argsL.reverse ++ rest) (hW : 2 * g.monitorRoom + (rest.map fun v => v.category).sum ≤ W9) (hdg : decode c.code g.pc = .ok (.invokestatic index, 3))
    (hpre : ∀ vm₁, s.WarmedH vm₁ → Pre ⟨T.setVm vm₁, locs, cells, slots⟩ argsL.toArray) :
    ∃ (v : Option Value) (vm₁ : Vm) (B : Pt), s.WarmedH vm₁ ∧ Stand p l e R s m args below meth c B.U B.locs B.cells B.slots ∧ Post ⟨T.setVm vm₁, locs, cells, slots⟩ argsL.toArray v B ∧
      ∀ target, Steps p.tables e below (B.U.setTop { g with pc := g.pc + 3, stack := v.toList ++ rest }) target → Steps p.tables e below (T.setTop g) target := by
  obtain ⟨mk, methM, cM, hnamed, hmethM, -, -, -, -, -, -, hsigM⟩ := Cond.codeWith_spec hcode
  have hstatic : methM.isStatic = true := Cond.static_spec hnamed hmethM hstat
  obtain ⟨kP, hkP, -⟩ := className_of_methodNamed hnamed
  have hinitP : kP.init = .initialized := Cond.initialized_spec (findClass_of_methodNamed hnamed) hkP hinit
  obtain ⟨vm₁, X₁, hstep₁⟩ := X.invokestatic hexec hown hlink hnamed hmethM hstatic hkP hinitP hy (g := g) hg (argsL := argsL) (rest := rest) (hlen _ hsigM) hstack hdg
  obtain ⟨v, B, X', hpost, hsteps⟩ := hK m meth c ⟨T.setVm vm₁, locs, cells, slots⟩ { g with stack := rest } (.invokestatic index) mk argsL.toArray X₁ hg hsize hdg hW (X₁.named hnamed) (hpre vm₁ X₁.warmed)
  exact ⟨v, vm₁, B, X₁.warmed, X', hpost, fun target h => hstep₁ _ fun acts => by rw [doInvoke_state]; exact hsteps.trans h⟩
theorem vx_runSW {y : MethodName} {bytes cc : ByteArray} {maxL nL mc ms n index : Nat} {ret : Option FieldType} {hh : List (Nat × Nat × Nat × Nat)} {ws : List Cond} {rm : Room} {Pc : Array Value → State → Prop} {Qc : Array Value → State → Outcome → State → Prop} {free : Addr → Prop} {Ts : List Cond} {own : String} {As rest : List Value} {g : JFrame}
    (S : CallFix p m c cc nL s args Ts own) (hM : Met l y ws rm Pc Qc mc ms free) (cw : vx_CSW R s args own index y bytes maxL ret hh ws rm mc ms n) (hp : PreS s H Pc As)
    (hg : g.method = m) (hn : As.length = n) (hsize : g.locals.size = nL) (hstack : g.stack = As.reverse ++ rest) (hW : 2 * g.monitorRoom + (rest.map fun v => v.category).sum ≤ 8) (hdg : decode cc g.pc = .ok (.invokestatic index, 3)) (hf : cells + mc ≤ R.cells ∧ slots + ms ≤ R.slots) :
    va_Run p l e R s m args below meth c H locs cells slots mc ms g rest (Qc As.toArray) (free) := by
  obtain ⟨⟨hrc, hrs, hfr, hlo, hws, hcw⟩, hcode, hini, hy, hlen, hl, hstt⟩ := cw
  have hK : Back l R p e below s args y 3 8 (PreOf R mc ms Pc) (PostOf Qc mc ms free) := va_backW (hh := hh) (bytes := bytes) (maxL := maxL) (ret := ret) hM hp.1 hrc hrs hfr hlo hws hcw (fun a' U hW => word_at hW (Or.inl (by first | rfl | simp [Cond.onTables, Cond.keeps, Cond.steady])) hini)
  obtain ⟨hx, hb, hml, ho, -⟩ := S
  intro T hT X
  obtain ⟨v, vm₁, ⟨U', l2, c2, s2⟩, hW₁, X', ⟨g', mk, t, L, e1, e2, hq, h1, hL, h2, h3⟩, st⟩ := vx_callSW X hx (hh := hh) (bytes := bytes) (maxL := maxL) (ret := ret) ho hl hstt hini hcode hy hK hg (hsize.trans hml.symm) (argsL := As) (rest := rest) (fun sig h => hn.trans (hlen sig h)) hstack hW (by rw [hb]; exact hdg)
    (fun vm₁ hW₁ => ⟨hf.1, hf.2, hp.2 (T.setVm vm₁) hT hW₁⟩)
  dsimp only [Pt.U, Pt.locs, Pt.cells, Pt.slots] at X' e1 e2 h1 h2 h3 st
  subst h1; subst h2; subst h3
  exact ⟨v, (T.setVm vm₁).calling g' mk As.toArray, t, U', L, hT, X', hL, e1, e2, hq, st⟩
/-- not caught here, past rows that name other classes: it goes on to the caller -/
theorem vx_outP {p : Program} {l : Launch} {e : Env} {R : Room} {s : State} {m : MethodId} {args : Array Value} {below : List Frame} {meth : Method} {c : Code} {H : Heap} {locs : List Loc} {cells slots : Nat} {free : Addr → Prop} {ls : Array Slot} {rest : List Value} {Qc : Array Value → State → Outcome → State → Prop} {XC : String → State → State → Prop}
    {pc : Nat} {own E : String} {ce : Cell} {q : Addr} {mc ms : Nat} (hown : s.vm.findClass own = some m.cls) (hlocks : meth.locks = false)
    (hpass : ∀ z ∈ c.exceptionTable.toList, covers z pc = false ∨ (z.catchType ≠ 0 ∧ ∃ nm : String, (Cond.classLink own z.catchType nm).before args s = true ∧ va_Nc E nm s)) (hcell : H[q]? = some ce) (hv : ce.vm = .none) (hcl : s.vm.findClass E = some ce.cls)
    (hx : ∀ t : State, t.heap = H → s.vm.Alike t.vm → XC E s t) (hf : ∀ z ∈ locs, free z.base) (hc : cells ≤ mc) (hs : slots ≤ ms) :
    vx_W p l e R s m args below meth c H locs cells slots (vx_MQ below Qc XC args s mc ms free) (F0 m pc ls rest) q := by
  intro T hT X
  have hpl : e.platform.magicAccessors = ({} : Platform).magicAccessors := by rw [X.admits.platform]
  obtain ⟨vm', hW', X', st⟩ := X.outThrough hlocks q (g := F0 m pc ls rest) rfl rfl rfl (cell := ce) (by rw [hT]; exact hcell) (by rw [hv]; rfl)
    (by obtain ⟨k9, h9, -⟩ := Vm.findClass_spec hcl; exact ⟨k9, h9⟩) (fun z hz => by
      rcases hpass z hz with h | ⟨hz0, nm, hl1, hn1⟩
      · exact Or.inl h
      · obtain ⟨c6, hc6, hcl6⟩ := Cond.classLink_spec hown hl1 e.platform hpl
        obtain ⟨a8, b8, h1, h2, h3⟩ := hn1
        cases Option.some.inj (h1.symm.trans hcl)
        cases Option.some.inj (h2.symm.trans hc6)
        exact Or.inr ⟨hz0, _, hcl6, h3⟩)
  obtain ⟨g₀, hfr⟩ := X'.frames_eq
  have hcell9 : ((T.setVm vm').setFrames (.throwing q :: below)).heap[q]? = some ce := by
    show T.heap[q]? = some ce
    rw [hT]; exact hcell
  have hend : Ended ((T.setVm vm').setFrames (.throwing q :: below)) below (.threw q) := State.frames_setFrames _ (State.cur_lt_of_frames hfr)
  refine ⟨(T.setVm vm').setFrames (.throwing q :: below), ?_, .threw q, X'.here.running, hend, Or.inr ⟨q, rfl, E, ce, locs, hx _ hT (X'.ends _).1.alike, hcell9, hv, hcl, (X'.ends _).1, (X'.ends _).2.mono hc hs, hf⟩⟩
  rw [X.pushThrowing_eq]
  exact st
/-- a thing of a world lies in the heap -/
theorem vx_lt {D : va_G} {cl : List vw_C} {ws : va_W} {H1 : Heap} (h : va_P D cl ws H1) {k : Nat} {q : Nat × va_E} (hk : ws[k]? = some q) : q.1 < H1.size := (h k q hk).lt
end VXS
/-! ===== END ===== -/
/-! ===== BEGIN methods with a table of their own: called by a name, returning or throwing ===== -/
section VXH
/-! vx_backW, vx_callVX, vx_callSX, vx_callVW, vx_runVW, vx_runVX, vx_runSX, vx_ofWH follow the same proofs as their sisters above (Free/Laws.lean, Shelf42/LK1.lean); vx_outP calls Shelf42/NT130.lean (outThrough). -/
section
variable {l : Launch} {R : Room} {p : Program} {e : Env} {below : List Frame} {s : State} {sargs : Array Value} {y : MethodName} {len W9 : Nat}
theorem vx_backW {ws : List Cond} {rm : Room} {Pc : Array Value → State → Prop} {Qc : Array Value → State → Outcome → State → Prop} {XC : String → State → State → Prop} {mc ms : Nat} {free : Addr → Prop} {bytes : ByteArray} {maxL : Nat} {ret : Option FieldType} {hh : List (Nat × Nat × Nat × Nat)}
    (hM : vx_Met l y ws rm Pc Qc XC mc ms free) (hblind : FrameBlind Pc) (hrc : rm.cells = mc) (hrs : rm.slots = ms)
    (hframes : rm.frames + 1 ≤ R.frames) (hlocals : W9 + (maxL + 11) + rm.locals ≤ R.locals)
    (hws : ∀ w ∈ ws, ∀ a' U, s.WarmedH U.vm → w.before a' U = true) (hcode : Cond.codeWith y bytes maxL ret hh ∈ ws) (hinit : ∀ a' U, s.WarmedH U.vm → (Cond.initialized y.cls).before a' U = true) :
    vx_Back l R p e below s sargs y len W9 (PreOf R mc ms Pc) (PostOf Qc mc ms free) (vx_Post XC mc ms free) := by
  intro m meth c A g ig mk a X hg hsize hdg hW hn hp
  have h1 : (headSpec ws rm).pre.before a A.U = true := atoms_intro fun w hw => hws w hw _ _ X.warmed
  have h2 : (Cond.codeWith y bytes maxL ret hh).before a A.U = true := hws _ hcode _ _ X.warmed
  have h3 : (Cond.initialized y.cls).before a A.U = true := hinit _ _ X.warmed
  have h4 : A.cells + (headSpec ws rm).room.cells ≤ R.cells := by rw [show (headSpec ws rm).room.cells = mc from hrc]; exact hp.1
  have h5 : A.slots + (headSpec ws rm).room.slots ≤ R.slots := by rw [show (headSpec ws rm).room.slots = ms from hrs]; exact hp.2.1
  have hPc : Pc a (A.U.calling g mk a) := hblind _ _ _ _ hp.2.2
  obtain ⟨U, Ls, c0, s0⟩ := A
  dsimp only [Pt.U, Pt.locs, Pt.cells, Pt.slots] at h1 h2 h3 h4 h5 X hn hPc ⊢
  obtain ⟨m9, methY, cY, hn9, hmY, hcY, -, hlY, -⟩ := Cond.codeWith_spec h2
  cases Option.some.inj (hn9.symm.trans hn)
  obtain ⟨kY, hkY, -⟩ := className_of_methodNamed hn
  have hinitY : kY.init = .initialized := Cond.initialized_spec (findClass_of_methodNamed hn) hkY h3
  have h : At U g.method c below := by rw [hg]; exact X.here
  have hlocals9 : W9 + (maxL + 11) + (headSpec ws rm).room.locals ≤ R.locals := hlocals
  have happ : (headSpec ws rm).appliesLoose y e.platform (U.calling g mk a) = true :=
    Spec.appliesLoose_calling (g := g) h hdg hn hkY hinitY
      (X.room_calling (g := g) (R' := (headSpec ws rm).room) hsize hmY hcY hframes (by rw [hlY]; omega) h4 h5) h1
  obtain ⟨mid, hmid⟩ := h.above
  have hfr : (U.setTop g).frames = (.java g :: mid) ++ below := by rw [State.frames_setTop' g h.top, hmid]; rfl
  obtain ⟨o, s₂, hsteps, -, hend, hq⟩ := Steps.callFree hM p X.admits X.cas X.clock (acts := []) hfr happ hPc trivial
  have hq' : vx_Q Qc XC mc ms free a (U.calling g mk a) o s₂ := hq
  rw [State.frames_setTop' g h.top] at hend
  obtain ⟨g₀, hg0⟩ := Option.isSome_iff_exists.mp h.top
  obtain ⟨r, hr⟩ := State.topJava?_eq_some.mp hg0
  have hr' : (({ U with heap := s₂.heap, slotsUsed := s₂.slotsUsed } : State).setVm s₂.vm).frames = .java g₀ :: r := hr
  rcases hq' with ⟨hqc, L, hfe, hL⟩ | ⟨q, rfl, E, ce, L, hx, hce, hcv, hcl, hW₂, hsm, hL⟩
  · obtain ⟨⟨v, rfl⟩, hW₂, e2, q2, q3, q4, q5, q6⟩ := id hfe
    have e3 : s₂ = ({ (U.calling g mk a).setFrames s₂.frames with heap := s₂.heap, slotsUsed := s₂.slotsUsed } : State).setVm s₂.vm := by
      have : s₂ = ({ s₂ with vm := (U.calling g mk a).vm } : State).setVm s₂.vm := rfl
      rw [e2] at this
      exact this
    obtain ⟨c₂, i₂, len₂, hc₂, hd₂, hf₂⟩ := hend
    have hW' : U.WarmedH s₂.vm := hW₂
    have hcc : c₂ = c := by
      have h1 : s₂.code? g.method = U.code? g.method := by
        rw [State.code?_eq, State.code?_eq, hW'.alike.method?]
      exact Option.some.inj (hc₂.symm.trans (h1.trans h.code))
    subst hcc
    have hlen : len₂ = len := by rw [hdg] at hd₂; cases hd₂; rfl
    subst hlen
    have hs₂ : s₂ = (({ U with heap := s₂.heap, slotsUsed := s₂.slotsUsed } : State).setVm s₂.vm).setTop { g with pc := g.pc + len₂, stack := v.toList ++ g.stack } := by
      refine e3.trans ?_
      rw [hf₂, State.calling_eq h.top, State.setFrames_setFrames, State.setTop_of_frames _ hr', hr]
      rfl
    have hsame : U.sameButNew ({ U with heap := s₂.heap, slotsUsed := s₂.slotsUsed } : State) L mc ms := by
      refine ⟨?_, q2, q3, q4, q5, q6⟩
      obtain ⟨t, ht, -⟩ := State.frames_cons hr
      show ({ U with heap := s₂.heap, slotsUsed := s₂.slotsUsed } : State) = { U.setFrames U.frames with heap := s₂.heap, slotsUsed := s₂.slotsUsed }
      rw [State.setFrames_self ht]
    subst hg
    refine Or.inl ⟨v, ⟨(({ U with heap := s₂.heap, slotsUsed := s₂.slotsUsed } : State).setVm s₂.vm), Ls ++ L, c0 + mc, s0 + ms⟩,
      ⟨X.admits, X.cas, X.clock, X.frames, X.room, X.hears, X.method, X.code, (X.here.setHeapUsed s₂.heap s₂.slotsUsed).setVm hW'.alike, X.tail, State.WarmedH.trans X.warmed hW', X.limits, X.bytes, X.same.trans (hsame.setVm s.vm)⟩,
      ⟨g, mk, s₂, L, rfl, rfl, hqc, rfl, hL, rfl, rfl⟩, ?_⟩
    show Steps p.tables e below _ ((({ U with heap := s₂.heap, slotsUsed := s₂.slotsUsed } : State).setVm s₂.vm).setTop { g with pc := g.pc + len₂, stack := v.toList ++ g.stack })
    rw [← hs₂]
    exact hsteps
  · obtain ⟨e2, q2, q3, q4, q5, q6⟩ := id hsm
    have e3 : s₂ = ({ (U.calling g mk a).setFrames s₂.frames with heap := s₂.heap, slotsUsed := s₂.slotsUsed } : State).setVm s₂.vm := by
      have : s₂ = ({ s₂ with vm := (U.calling g mk a).vm } : State).setVm s₂.vm := rfl
      rw [e2] at this
      exact this
    have hf₂ : s₂.frames = .throwing q :: .java g :: U.frames.tail := hend
    have hW' : U.WarmedH s₂.vm := hW₂
    have hs₂ : s₂ = ((({ U with heap := s₂.heap, slotsUsed := s₂.slotsUsed } : State).setVm s₂.vm).setTop g).pushFrame (.throwing q) := by
      refine e3.trans ?_
      rw [hf₂, State.calling_eq h.top, State.setFrames_setFrames, State.pushFrame, State.frames_setTop _ hr', State.setTop_of_frames _ hr', State.setFrames_setFrames, hr]
      rfl
    have hsame : U.sameButNew ({ U with heap := s₂.heap, slotsUsed := s₂.slotsUsed } : State) L mc ms := by
      refine ⟨?_, q2, q3, q4, q5, q6⟩
      obtain ⟨t, ht, -⟩ := State.frames_cons hr
      show ({ U with heap := s₂.heap, slotsUsed := s₂.slotsUsed } : State) = { U.setFrames U.frames with heap := s₂.heap, slotsUsed := s₂.slotsUsed }
      rw [State.setFrames_self ht]
    subst hg
    refine Or.inr ⟨q, ⟨(({ U with heap := s₂.heap, slotsUsed := s₂.slotsUsed } : State).setVm s₂.vm), Ls ++ L, c0 + mc, s0 + ms⟩,
      ⟨X.admits, X.cas, X.clock, X.frames, X.room, X.hears, X.method, X.code, (X.here.setHeapUsed s₂.heap s₂.slotsUsed).setVm hW'.alike, X.tail, State.WarmedH.trans X.warmed hW', X.limits, X.bytes, X.same.trans (hsame.setVm s.vm)⟩,
      ⟨g, mk, s₂, L, E, ce, rfl, rfl, hx, hce, hcv, hcl, rfl, hL, rfl, rfl⟩, ?_⟩
    show Steps p.tables e below _ (((({ U with heap := s₂.heap, slotsUsed := s₂.slotsUsed } : State).setVm s₂.vm).setTop g).pushFrame (.throwing q))
    rw [← hs₂]
    exact hsteps
end
variable {p : Program} {l : Launch} {e : Env} {R : Room} {s : State} {m : MethodId} {args : Array Value} {below : List Frame} {meth : Method} {c : Code} {T : State} {H : Heap} {locs : List Loc} {cells slots : Nat}
theorem vx_callVX (X : Stand p l e R s m args below meth c T locs cells slots) (hexec : p.tables.exec = Jvm.exec) {own C : String} {index : Nat} {y : MethodName} {bytes : ByteArray} {maxL : Nat} {ret : Option FieldType} {hh : List (Nat × Nat × Nat × Nat)}
    (hown : s.vm.findClass own = some m.cls) (hlink : (Cond.methodLink own index y).before args s = true) (hinst : (Cond.instanceMethod y).before args s = true) (hsel : (Cond.selects C y y).before args s = true)
    (hcode : (Cond.codeWith y bytes maxL ret hh).before args s = true) (hy : y.cls ≠ "java/lang/invoke/MethodHandle" ∧ y.cls ≠ "java/lang/invoke/VarHandle")
    {W9 : Nat} {Pre : Pt → Array Value → Prop} {Post : Pt → Array Value → Option Value → Pt → Prop} {PostX : Pt → Array Value → Addr → Pt → Prop} (hK : vx_Back l R p e below s args y 3 W9 Pre Post PostX)
    {b : Addr} {cellB : Cell} (hcell : T.heap[b]? = some cellB) (hobj : cellB.vm.isStatics = false) (hcls : s.vm.findClass C = some cellB.cls)
    {g : JFrame} (hg : g.method = m) (hsize : g.locals.size = c.maxLocals) {argsL rest : List Value} (hlen : ∀ sig, parseMethodDescriptor y.desc = some sig → argsL.length = sig.parameters.length)
    (hstack : g.stack = argsL.reverse ++ .ref b :: rest) (hW : 2 * g.monitorRoom + (rest.map fun v => v.category).sum ≤ W9) (hdg : decode c.code g.pc = .ok (.invokevirtual index, 3))
    (hpre : ∀ vm₁, s.WarmedH vm₁ → Pre ⟨T.setVm vm₁, locs, cells, slots⟩ (Value.ref b :: argsL).toArray) :
    (∃ (v : Option Value) (vm₁ : Vm) (B : Pt), s.WarmedH vm₁ ∧ Stand p l e R s m args below meth c B.U B.locs B.cells B.slots ∧ Post ⟨T.setVm vm₁, locs, cells, slots⟩ (Value.ref b :: argsL).toArray v B ∧
      ∀ target, Steps p.tables e below (B.U.setTop { g with pc := g.pc + 3, stack := v.toList ++ rest }) target → Steps p.tables e below (T.setTop g) target) ∨
    (∃ (q : Addr) (vm₁ : Vm) (B : Pt), s.WarmedH vm₁ ∧ Stand p l e R s m args below meth c B.U B.locs B.cells B.slots ∧ PostX ⟨T.setVm vm₁, locs, cells, slots⟩ (Value.ref b :: argsL).toArray q B ∧
      Steps p.tables e below (T.setTop g) ((B.U.setTop { g with stack := rest }).pushFrame (.throwing q))) := by
  obtain ⟨mk, methM, hnamed, hmethM, hstM, habM⟩ := Cond.instanceMethod_spec hinst
  obtain ⟨m8, methM', cM, hn8, hmethM', -, -, -, -, -, -, hsigM⟩ := Cond.codeWith_spec hcode
  cases Option.some.inj (hn8.symm.trans hnamed)
  cases hmethM.symm.trans hmethM'
  obtain ⟨c2, r2, m2, q1, q2, q3, q4, kP, hkP, hkPi⟩ := Cond.selects_spec hsel
  cases hcls.symm.trans q1
  cases (State.methodFound?_of_named hnamed hy).symm.trans q2
  cases hnamed.symm.trans q3
  have hselP : selectMethod e.platform s.vm cellB.cls mk = .method mk := by rw [Launch.admits_selectMethod X.admits]; exact q4
  obtain ⟨vm₁, X₁, hstep₁⟩ := X.invokevirtual hexec hown hlink hnamed hmethM hstM hkP hkPi hy (a := b) (cell := cellB) hcell
    (fun z h => by rw [h] at hobj; cases hobj) hselP hmethM habM hkP hkPi (g := g) hg (argsL := argsL) (rest := rest) (hlen _ hsigM) hstack hdg
  rcases hK m meth c ⟨T.setVm vm₁, locs, cells, slots⟩ { g with stack := rest } (.invokevirtual index) mk (Value.ref b :: argsL).toArray X₁ hg hsize hdg hW (X₁.named hnamed) (hpre vm₁ X₁.warmed) with ⟨v, B, X', hpost, hsteps⟩ | ⟨q, B, X', hpost, hsteps⟩
  · exact Or.inl ⟨v, vm₁, B, X₁.warmed, X', hpost, fun target h => hstep₁ _ fun acts => by rw [doInvoke_state]; exact hsteps.trans h⟩
  · exact Or.inr ⟨q, vm₁, B, X₁.warmed, X', hpost, hstep₁ _ fun acts => by rw [doInvoke_state]; exact hsteps⟩
theorem vx_callSX (X : Stand p l e R s m args below meth c T locs cells slots) (hexec : p.tables.exec = Jvm.exec) {own : String} {index : Nat} {y : MethodName} {bytes : ByteArray} {maxL : Nat} {ret : Option FieldType} {hh : List (Nat × Nat × Nat × Nat)}
    (hown : s.vm.findClass own = some m.cls) (hlink : (Cond.methodLink own index y).before args s = true) (hstat : (Cond.static y).before args s = true) (hinit : (Cond.initialized y.cls).before args s = true)
    (hcode : (Cond.codeWith y bytes maxL ret hh).before args s = true) (hy : y.cls ≠ "java/lang/invoke/MethodHandle" ∧ y.cls ≠ "java/lang/invoke/VarHandle")
    {W9 : Nat} {Pre : Pt → Array Value → Prop} {Post : Pt → Array Value → Option Value → Pt → Prop} {PostX : Pt → Array Value → Addr → Pt → Prop} (hK : vx_Back l R p e below s args y 3 W9 Pre Post PostX)
    {g : JFrame} (hg : g.method = m) (hsize : g.locals.size = c.maxLocals) {argsL rest : List Value} (hlen : ∀ sig, parseMethodDescriptor y.desc = some sig → argsL.length = sig.parameters.length)
    (hstack : g.stack = argsL.reverse ++ rest) (hW : 2 * g.monitorRoom + (rest.map fun v => v.category).sum ≤ W9) (hdg : decode c.code g.pc = .ok (.invokestatic index, 3))
    (hpre : ∀ vm₁, s.WarmedH vm₁ → Pre ⟨T.setVm vm₁, locs, cells, slots⟩ argsL.toArray) :
    (∃ (v : Option Value) (vm₁ : Vm) (B : Pt), s.WarmedH vm₁ ∧ Stand p l e R s m args below meth c B.U B.locs B.cells B.slots ∧ Post ⟨T.setVm vm₁, locs, cells, slots⟩ argsL.toArray v B ∧
      ∀ target, Steps p.tables e below (B.U.setTop { g with pc := g.pc + 3, stack := v.toList ++ rest }) target → Steps p.tables e below (T.setTop g) target) ∨
    (∃ (q : Addr) (vm₁ : Vm) (B : Pt), s.WarmedH vm₁ ∧ Stand p l e R s m args below meth c B.U B.locs B.cells B.slots ∧ PostX ⟨T.setVm vm₁, locs, cells, slots⟩ argsL.toArray q B ∧
      Steps p.tables e below (T.setTop g) ((B.U.setTop { g with stack := rest }).pushFrame (.throwing q))) := by
  obtain ⟨mk, methM, cM, hnamed, hmethM, -, -, -, -, -, -, hsigM⟩ := Cond.codeWith_spec hcode
  have hstatic : methM.isStatic = true := Cond.static_spec hnamed hmethM hstat
  obtain ⟨kP, hkP, -⟩ := className_of_methodNamed hnamed
  have hinitP : kP.init = .initialized := Cond.initialized_spec (findClass_of_methodNamed hnamed) hkP hinit
  obtain ⟨vm₁, X₁, hstep₁⟩ := X.invokestatic hexec hown hlink hnamed hmethM hstatic hkP hinitP hy (g := g) hg (argsL := argsL) (rest := rest) (hlen _ hsigM) hstack hdg
  rcases hK m meth c ⟨T.setVm vm₁, locs, cells, slots⟩ { g with stack := rest } (.invokestatic index) mk argsL.toArray X₁ hg hsize hdg hW (X₁.named hnamed) (hpre vm₁ X₁.warmed) with ⟨v, B, X', hpost, hsteps⟩ | ⟨q, B, X', hpost, hsteps⟩
  · exact Or.inl ⟨v, vm₁, B, X₁.warmed, X', hpost, fun target h => hstep₁ _ fun acts => by rw [doInvoke_state]; exact hsteps.trans h⟩
  · exact Or.inr ⟨q, vm₁, B, X₁.warmed, X', hpost, hstep₁ _ fun acts => by rw [doInvoke_state]; exact hsteps⟩
theorem vx_callVW (X : Stand p l e R s m args below meth c T locs cells slots) (hexec : p.tables.exec = Jvm.exec) {own C : String} {index : Nat} {y : MethodName} {bytes : ByteArray} {maxL : Nat} {ret : Option FieldType} {hh : List (Nat × Nat × Nat × Nat)}
    (hown : s.vm.findClass own = some m.cls) (hlink : (Cond.methodLink own index y).before args s = true) (hinst : (Cond.instanceMethod y).before args s = true) (hsel : (Cond.selects C y y).before args s = true)
    (hcode : (Cond.codeWith y bytes maxL ret hh).before args s = true) (hy : y.cls ≠ "java/lang/invoke/MethodHandle" ∧ y.cls ≠ "java/lang/invoke/VarHandle")
    {W9 : Nat} {Pre : Pt → Array Value → Prop} {Post : Pt → Array Value → Option Value → Pt → Prop} (hK : Back l R p e below s args y 3 W9 Pre Post)
    {b : Addr} {cellB : Cell} (hcell : T.heap[b]? = some cellB) (hobj : cellB.vm.isStatics = false) (hcls : s.vm.findClass C = some cellB.cls)
    {g : JFrame} (hg : g.method = m) (hsize : g.locals.size = c.maxLocals) {argsL rest : List Value} (hlen : ∀ sig, parseMethodDescriptor y.desc = some sig → argsL.length = sig.parameters.length)
    (hstack : g.stack = argsL.reverse ++ .ref b :: rest) (hW : 2 * g.monitorRoom + (rest.map fun v => v.category).sum ≤ W9) (hdg : decode c.code g.pc = .ok (.invokevirtual index, 3))
    (hpre : ∀ vm₁, s.WarmedH vm₁ → Pre ⟨T.setVm vm₁, locs, cells, slots⟩ (Value.ref b :: argsL).toArray) :
    ∃ (v : Option Value) (vm₁ : Vm) (B : Pt), s.WarmedH vm₁ ∧ Stand p l e R s m args below meth c B.U B.locs B.cells B.slots ∧ Post ⟨T.setVm vm₁, locs, cells, slots⟩ (Value.ref b :: argsL).toArray v B ∧
      ∀ target, Steps p.tables e below (B.U.setTop { g with pc := g.pc + 3, stack := v.toList ++ rest }) target → Steps p.tables e below (T.setTop g) target := by
  obtain ⟨mk, methM, hnamed, hmethM, hstM, habM⟩ := Cond.instanceMethod_spec hinst
  obtain ⟨m8, methM', cM, hn8, hmethM', -, -, -, -, -, -, hsigM⟩ := Cond.codeWith_spec hcode
  cases Option.some.inj (hn8.symm.trans hnamed)
  cases hmethM.symm.trans hmethM'
  obtain ⟨c2, r2, m2, q1, q2, q3, q4, kP, hkP, hkPi⟩ := Cond.selects_spec hsel
  cases hcls.symm.trans q1
  cases (State.methodFound?_of_named hnamed hy).symm.trans q2
  cases hnamed.symm.trans q3
  have hselP : selectMethod e.platform s.vm cellB.cls mk = .method mk := by rw [Launch.admits_selectMethod X.admits]; exact q4
  obtain ⟨vm₁, X₁, hstep₁⟩ := X.invokevirtual hexec hown hlink hnamed hmethM hstM hkP hkPi hy (a := b) (cell := cellB) hcell
    (fun z h => by rw [h] at hobj; cases hobj) hselP hmethM habM hkP hkPi (g := g) hg (argsL := argsL) (rest := rest) (hlen _ hsigM) hstack hdg
  obtain ⟨v, B, X', hpost, hsteps⟩ := hK m meth c ⟨T.setVm vm₁, locs, cells, slots⟩ { g with stack := rest } (.invokevirtual index) mk (Value.ref b :: argsL).toArray X₁ hg hsize hdg hW (X₁.named hnamed) (hpre vm₁ X₁.warmed)
  exact ⟨v, vm₁, B, X₁.warmed, X', hpost, fun target h => hstep₁ _ fun acts => by rw [doInvoke_state]; exact hsteps.trans h⟩
abbrev vx_CVW (R : Room) (s : State) (args : Array Value) (own C : String) (index : Nat) (y : MethodName) (bytes : ByteArray) (maxL : Nat) (ret : Option FieldType) (hh : List (Nat × Nat × Nat × Nat)) (ws : List Cond) (rm : Room) (mc ms n : Nat) : Prop :=
  (rm.cells = mc ∧ rm.slots = ms ∧ rm.frames + 1 ≤ R.frames ∧ 8 + (maxL + 11) + rm.locals ≤ R.locals ∧ (∀ w ∈ ws, ∀ (a' : Array Value) (U : State), s.WarmedH U.vm → w.before a' U = true) ∧ Cond.codeWith y bytes maxL ret hh ∈ ws) ∧
  (Cond.codeWith y bytes maxL ret hh).before args s = true ∧ (Cond.initialized y.cls).before args s = true ∧ (y.cls ≠ "java/lang/invoke/MethodHandle" ∧ y.cls ≠ "java/lang/invoke/VarHandle") ∧
  (∀ sig, parseMethodDescriptor y.desc = some sig → n = sig.parameters.length) ∧ (Cond.methodLink own index y).before args s = true ∧ (Cond.instanceMethod y).before args s = true ∧ (Cond.selects C y y).before args s = true
theorem vx_cwVW {own C : String} {index maxL mc ms : Nat} {y : MethodName} {bytes : ByteArray} {ret : Option FieldType} {hh : List (Nat × Nat × Nat × Nat)} {Ts ws ws' : List Cond} {rm : Room} (n : Nat) (ht : ∀ w ∈ Ts, w.before args s = true) (hT : GoodIn Ts (wsV own index C y ws)) (hw : ws = Cond.codeWith y bytes maxL ret hh :: ws') (hrc : rm.cells = mc) (hrs : rm.slots = ms)
    (hd : y.cls = C ∧ y.cls ≠ "java/lang/invoke/MethodHandle" ∧ y.cls ≠ "java/lang/invoke/VarHandle" ∧ (parseMethodDescriptor y.desc).map (fun d => d.parameters.length) = some n) (hR : rm.frames + 1 ≤ R.frames ∧ 8 + (maxL + 11) + rm.locals ≤ R.locals) :
    vx_CVW R s args own C index y bytes maxL ret hh ws rm mc ms n := by
  obtain ⟨hC, hd⟩ := hd
  subst hC
  have ok : ∀ w ∈ wsV own index y.cls y ws, w.before args s = true := fun w h => ht w (hT w h).1
  have hG : GoodIn Ts ws := fun w h => hT w (by unfold wsV; exact List.mem_append_right _ h)
  have hc : Cond.codeWith y bytes maxL ret hh ∈ ws := by rw [hw]; exact List.mem_cons_self
  refine ⟨⟨hrc, hrs, hR.1, hR.2, pay_in ht hG, hc⟩, ht _ (hG _ hc).1, ok _ (by simp [wsV]), ⟨hd.1, hd.2.1⟩, fun sig h => ?_, ok _ (by simp [wsV]), ok _ (by simp [wsV]), ok _ (by simp [wsV])⟩
  have h2 := hd.2.2
  rw [h] at h2
  exact (Option.some.inj h2).symm
theorem vx_runVW {y : MethodName} {bytes cc : ByteArray} {maxL nL mc ms n index : Nat} {ret : Option FieldType} {hh : List (Nat × Nat × Nat × Nat)} {ws : List Cond} {rm : Room} {Pc : Array Value → State → Prop} {Qc : Array Value → State → Outcome → State → Prop} {free : Addr → Prop} {Ts : List Cond} {own C : String} {b : Addr} {As rest : List Value} {g : JFrame}
    (S : CallFix p m c cc nL s args Ts own) (hM : Met l y ws rm Pc Qc mc ms free) (cw : vx_CVW R s args own C index y bytes maxL ret hh ws rm mc ms n) (hp : PreV s H C b Pc As)
    (hg : g.method = m) (hn : As.length = n) (hsize : g.locals.size = nL) (hstack : g.stack = As.reverse ++ .ref b :: rest) (hW : 2 * g.monitorRoom + (rest.map fun v => v.category).sum ≤ 8) (hdg : decode cc g.pc = .ok (.invokevirtual index, 3)) (hf : cells + mc ≤ R.cells ∧ slots + ms ≤ R.slots) :
    va_Run p l e R s m args below meth c H locs cells slots mc ms g rest (Qc (Value.ref b :: As).toArray) free := by
  obtain ⟨⟨hrc, hrs, hfr, hlo, hws, hcw⟩, hcode, hini, hy, hlen, hl, hin, hse⟩ := cw
  have hK : Back l R p e below s args y 3 8 (PreOf R mc ms Pc) (PostOf Qc mc ms free) := va_backW (hh := hh) (bytes := bytes) (maxL := maxL) (ret := ret) hM hp.1 hrc hrs hfr hlo hws hcw (fun a' U hW => word_at hW (Or.inl (by first | rfl | simp [Cond.onTables, Cond.keeps, Cond.steady])) hini)
  obtain ⟨hx, hb, hml, ho, -⟩ := S
  obtain ⟨-, ⟨cellB, hcB, hoB, hclB⟩, hPc⟩ := hp
  intro T hT X
  obtain ⟨v, vm₁, ⟨U', l2, c2, s2⟩, hW₁, X', ⟨g', mk, t, L, e1, e2, hq, h1, hL, h2, h3⟩, st⟩ := vx_callVW X hx (C := C) (hh := hh) (bytes := bytes) (maxL := maxL) (ret := ret) ho hl hin hse hcode hy hK (by rw [hT]; exact hcB) hoB hclB hg (hsize.trans hml.symm) (argsL := As) (rest := rest) (fun sig h => hn.trans (hlen sig h)) hstack hW (by rw [hb]; exact hdg)
    (fun vm₁ hW₁ => ⟨hf.1, hf.2, hPc (T.setVm vm₁) hT hW₁⟩)
  dsimp only [Pt.U, Pt.locs, Pt.cells, Pt.slots] at X' e1 e2 h1 h2 h3 st
  subst h1; subst h2; subst h3
  exact ⟨v, (T.setVm vm₁).calling g' mk (Value.ref b :: As).toArray, t, U', L, hT, X', hL, e1, e2, hq, st⟩
section
variable {y : MethodName} {bytes cc : ByteArray} {maxL nL mc ms n index : Nat} {ret : Option FieldType} {ws : List Cond} {rm : Room} {Pc : Array Value → State → Prop} {Qc : Array Value → State → Outcome → State → Prop} {XC : String → State → State → Prop} {free : Addr → Prop} {Ts : List Cond} {own C : String} {b : Addr} {As rest : List Value} {g : JFrame}
theorem vx_runVX {hh : List (Nat × Nat × Nat × Nat)} (S : CallFix p m c cc nL s args Ts own) (hM : vx_Met l y ws rm Pc Qc XC mc ms free) (cw : vx_CVW R s args own C index y bytes maxL ret hh ws rm mc ms n) (hp : PreV s H C b Pc As)
    (hg : g.method = m) (hn : As.length = n) (hsize : g.locals.size = nL) (hstack : g.stack = As.reverse ++ .ref b :: rest) (hW : 2 * g.monitorRoom + (rest.map fun v => v.category).sum ≤ 8) (hdg : decode cc g.pc = .ok (.invokevirtual index, 3)) (hf : cells + mc ≤ R.cells ∧ slots + ms ≤ R.slots) :
    vx_Run p l e R s m args below meth c H locs cells slots mc ms g rest (Qc (Value.ref b :: As).toArray) XC free := by
  obtain ⟨⟨hrc, hrs, hfr, hlo, hws, hcw⟩, hcode, hini, hy, hlen, hl, hin, hse⟩ := cw
  have hK : vx_Back l R p e below s args y 3 8 (PreOf R mc ms Pc) (PostOf Qc mc ms free) (vx_Post XC mc ms free) := vx_backW (hh := hh) (bytes := bytes) (maxL := maxL) (ret := ret) hM hp.1 hrc hrs hfr hlo hws hcw (fun a' U hW => word_at hW (Or.inl (by first | rfl | simp [Cond.onTables, Cond.keeps, Cond.steady])) hini)
  obtain ⟨hx, hb, hml, ho, -⟩ := S
  obtain ⟨-, ⟨cellB, hcB, hoB, hclB⟩, hPc⟩ := hp
  intro T hT X
  rcases vx_callVX X hx (C := C) (hh := hh) (bytes := bytes) (maxL := maxL) (ret := ret) ho hl hin hse hcode hy hK (by rw [hT]; exact hcB) hoB hclB hg (hsize.trans hml.symm) (argsL := As) (rest := rest) (fun sig h => hn.trans (hlen sig h)) hstack hW (by rw [hb]; exact hdg)
    (fun vm₁ hW₁ => ⟨hf.1, hf.2, hPc (T.setVm vm₁) hT hW₁⟩) with ⟨v, vm₁, ⟨U', l2, c2, s2⟩, hW₁, X', ⟨g', mk, t, L, e1, e2, hq, h1, hL, h2, h3⟩, st⟩ | ⟨q, vm₁, ⟨U', l2, c2, s2⟩, hW₁, X', ⟨g', mk, t, L, E, ce, e1, e2, hq, hce, hcv, hcl, h1, hL, h2, h3⟩, st⟩
  · dsimp only [Pt.U, Pt.locs, Pt.cells, Pt.slots] at X' e1 e2 h1 h2 h3 st
    subst h1; subst h2; subst h3
    exact Or.inl ⟨v, (T.setVm vm₁).calling g' mk (Value.ref b :: As).toArray, t, U', L, hT, X', hL, e1, e2, hq, st⟩
  · dsimp only [Pt.U, Pt.locs, Pt.cells, Pt.slots] at X' e1 e2 h1 h2 h3 st hcl
    subst h1; subst h2; subst h3
    exact Or.inr ⟨q, (T.setVm vm₁).calling g' mk (Value.ref b :: As).toArray, t, U', L, E, ce, hT, X', hL, e1, e2, hq, hce, hcv, vx_cls hW₁ hcl, st⟩
theorem vx_runSX {hh : List (Nat × Nat × Nat × Nat)} (S : CallFix p m c cc nL s args Ts own) (hM : vx_Met l y ws rm Pc Qc XC mc ms free) (cw : vx_CSW R s args own index y bytes maxL ret hh ws rm mc ms n) (hp : PreS s H Pc As)
    (hg : g.method = m) (hn : As.length = n) (hsize : g.locals.size = nL) (hstack : g.stack = As.reverse ++ rest) (hW : 2 * g.monitorRoom + (rest.map fun v => v.category).sum ≤ 8) (hdg : decode cc g.pc = .ok (.invokestatic index, 3)) (hf : cells + mc ≤ R.cells ∧ slots + ms ≤ R.slots) :
    vx_Run p l e R s m args below meth c H locs cells slots mc ms g rest (Qc As.toArray) XC free := by
  obtain ⟨⟨hrc, hrs, hfr, hlo, hws, hcw⟩, hcode, hini, hy, hlen, hl, hstt⟩ := cw
  have hK : vx_Back l R p e below s args y 3 8 (PreOf R mc ms Pc) (PostOf Qc mc ms free) (vx_Post XC mc ms free) := vx_backW (hh := hh) (bytes := bytes) (maxL := maxL) (ret := ret) hM hp.1 hrc hrs hfr hlo hws hcw (fun a' U hW => word_at hW (Or.inl (by first | rfl | simp [Cond.onTables, Cond.keeps, Cond.steady])) hini)
  obtain ⟨hx, hb, hml, ho, -⟩ := S
  intro T hT X
  rcases vx_callSX X hx (hh := hh) (bytes := bytes) (maxL := maxL) (ret := ret) ho hl hstt hini hcode hy hK hg (hsize.trans hml.symm) (argsL := As) (rest := rest) (fun sig h => hn.trans (hlen sig h)) hstack hW (by rw [hb]; exact hdg)
    (fun vm₁ hW₁ => ⟨hf.1, hf.2, hp.2 (T.setVm vm₁) hT hW₁⟩) with ⟨v, vm₁, ⟨U', l2, c2, s2⟩, hW₁, X', ⟨g', mk, t, L, e1, e2, hq, h1, hL, h2, h3⟩, st⟩ | ⟨q, vm₁, ⟨U', l2, c2, s2⟩, hW₁, X', ⟨g', mk, t, L, E, ce, e1, e2, hq, hce, hcv, hcl, h1, hL, h2, h3⟩, st⟩
  · dsimp only [Pt.U, Pt.locs, Pt.cells, Pt.slots] at X' e1 e2 h1 h2 h3 st
    subst h1; subst h2; subst h3
    exact Or.inl ⟨v, (T.setVm vm₁).calling g' mk As.toArray, t, U', L, hT, X', hL, e1, e2, hq, st⟩
  · dsimp only [Pt.U, Pt.locs, Pt.cells, Pt.slots] at X' e1 e2 h1 h2 h3 st hcl
    subst h1; subst h2; subst h3
    exact Or.inr ⟨q, (T.setVm vm₁).calling g' mk As.toArray, t, U', L, E, ce, hT, X', hL, e1, e2, hq, hce, hcv, vx_cls hW₁ hcl, st⟩
end
end VXH
theorem vx_ofWH {l : Launch} {y : MethodName} {ws ws' : List Cond} {rm : Room} {Pc : Array Value → State → Prop} {Qc : Array Value → State → Outcome → State → Prop} {XC : String → State → State → Prop} {mc ms : Nat} {free : Addr → Prop} {cc : ByteArray} {maxL : Nat} {ret : Option FieldType} {hh : List (Nat × Nat × Nat × Nat)}
    (hy : plainName y.cls = true) (hw : ws = Cond.codeWith y cc maxL ret hh :: ws')
    (body : ∀ p e s m args below meth c s₁, BodyLoose p l y (headSpec ws rm) cc maxL ret e s m args below meth c s₁ → c.maxLocals = maxL → Pc args s →
      W p l e (headSpec ws rm).room s m args below meth c s.heap [] 0 0 (vx_MQ below Qc XC args s mc ms free) (entryFrame m args maxL)) : vx_Met l y ws rm Pc Qc XC mc ms free := by
  refine MetFree.of_bodyS (code := cc) (maxLocals := maxL) (ret := ret) hy ?_ ?_
  · intro args s m h hn
    obtain ⟨m9, meth, c, hn9, h1, h2, h3, h4, -, h5, h6, -⟩ := Cond.codeWith_spec (atoms_spec (ws := ws) h _ (by rw [hw]; exact List.mem_cons_self))
    cases hn.symm.trans hn9
    exact ⟨meth, c, h1, h2, h3, h4, h5, h6⟩
  · intro p e s m args below meth c s₁ B hml hP _
    have hh0 : s₁.heap = s.heap := by rw [B.state]; rfl
    obtain ⟨t, a1, o, b1, b2, b3⟩ := body p e s m args below meth c s₁ B hml hP s₁ hh0 (Stand.of_body B)
    exact ⟨t, o, a1, b1, b2, b3⟩
/-! ===== END ===== -/
end
section
/-! ===== BEGIN printed: names, fields, word lists, decode rows ===== -/
def RX0 : String := "SleepBorder$Border"
def TX0 : u_T := fun k => match k with
  | 0 => ("SleepBorder$Border", "clock", "I", false)
  | 1 => ("SleepBorder$Border", "expiredCount", "I", false)
  | 2 => ("SleepBorder$Border", "till", "I", false)
  | 3 => ("SleepBorder$Border", "travellerCount", "I", false)
  | 4 => ("SleepBorder$Border", "dreams", "[I", true)
  | 5 => ("SleepBorder$Border", "declared", "[I", true)
  | 6 => ("SleepBorder$Border", "snore", "[I", true)
  | 7 => ("SleepBorder$Border", "lullaby", "[I", true)
  | 8 => ("SleepBorder$Border", "state", "[I", true)
  | 9 => ("SleepBorder$Border", "transitLeft", "[I", true)
  | 10 => ("SleepBorder$Border", "asleepSince", "[I", true)
  | 11 => ("SleepBorder$Border", "guardCount", "I", false)
  | 12 => ("SleepBorder$Border", "alertness", "[I", true)
  | 13 => ("SleepBorder$Border", "searched", "[I", true)
  | _ => ("SleepBorder$Border", "searchLeft", "[I", true)
def tyX0 : Nat → FieldType := fun k => match k with
  | 0 => .int
  | 1 => .int
  | 2 => .int
  | 3 => .int
  | 4 => .array .int
  | 5 => .array .int
  | 6 => .array .int
  | 7 => .array .int
  | 8 => .array .int
  | 9 => .array .int
  | 10 => .array .int
  | 11 => .int
  | 12 => .array .int
  | 13 => .array .int
  | _ => .array .int
abbrev wsX00 : List Cond := u_ws RX0 TX0 15
theorem nmX0 : ∀ a, a < 15 → ∀ b, b < 15 → a ≠ b → (TX0 a).2.1 ≠ (TX0 b).2.1 := by decide +kernel
theorem tyX0_ok : ∀ k, k < 15 → parseFieldDescriptor (TX0 k).2.2.1 = some (tyX0 k) := by decide +kernel
abbrev cX0_init : ByteArray := prog_2_method_1_code
def yX0_init : MethodName := ⟨RX0, "<init>", "()V"⟩
abbrev cX0_admitGuard : ByteArray := prog_2_method_3_code
def yX0_admitGuard : MethodName := ⟨RX0, "admitGuard", "()V"⟩
abbrev cX0_admitTraveller : ByteArray := prog_2_method_4_code
def yX0_admitTraveller : MethodName := ⟨RX0, "admitTraveller", "(IIII)V"⟩
abbrev cX0_isTraveller : ByteArray := prog_2_method_5_code
def yX0_isTraveller : MethodName := ⟨RX0, "isTraveller", "(I)Z"⟩
abbrev cX0_isGuard : ByteArray := prog_2_method_6_code
def yX0_isGuard : MethodName := ⟨RX0, "isGuard", "(I)Z"⟩
abbrev cX0_countIn : ByteArray := prog_2_method_7_code
def yX0_countIn : MethodName := ⟨RX0, "countIn", "(I)I"⟩
abbrev cX0_waitingAhead : ByteArray := prog_2_method_8_code
def yX0_waitingAhead : MethodName := ⟨RX0, "waitingAhead", "(I)I"⟩
abbrev cX0_firstWaiting : ByteArray := prog_2_method_9_code
def yX0_firstWaiting : MethodName := ⟨RX0, "firstWaiting", "()I"⟩
abbrev cX0_addedSnores : ByteArray := prog_2_method_10_code
def yX0_addedSnores : MethodName := ⟨RX0, "addedSnores", "()I"⟩
abbrev cX0_hiddenDreams : ByteArray := prog_2_method_11_code
def yX0_hiddenDreams : MethodName := ⟨RX0, "hiddenDreams", "(I)I"⟩
abbrev cX0_searchMinutes : ByteArray := prog_2_method_12_code
def yX0_searchMinutes : MethodName := ⟨RX0, "searchMinutes", "(I)I"⟩
abbrev cX0_finds : ByteArray := prog_2_method_13_code
def yX0_finds : MethodName := ⟨RX0, "finds", "(II)Z"⟩
abbrev cX0_goOneMinute : ByteArray := prog_2_method_16_code
def yX0_goOneMinute : MethodName := ⟨RX0, "goOneMinute", "()V"⟩
abbrev cX0_advanceTransits : ByteArray := prog_2_method_17_code
def yX0_advanceTransits : MethodName := ⟨RX0, "advanceTransits", "()V"⟩
abbrev cX0_shortenLullabies : ByteArray := prog_2_method_18_code
def yX0_shortenLullabies : MethodName := ⟨RX0, "shortenLullabies", "()V"⟩
abbrev cX0_beginSearchOrRest : ByteArray := prog_2_method_19_code
def yX0_beginSearchOrRest : MethodName := ⟨RX0, "beginSearchOrRest", "(I)V"⟩
abbrev cX0_searchOn : ByteArray := prog_2_method_20_code
def yX0_searchOn : MethodName := ⟨RX0, "searchOn", "(II)V"⟩
def RX1 : String := "SleepBorder"
def TX1 : u_T := fun k => match k with
  | 0 => ("SleepBorder", "now", "LSleepBorder$Border;", true)
  | _ => ("SleepBorder", "trial", "LSleepBorder$Border;", true)
def tyX1 : Nat → FieldType := fun k => match k with
  | 0 => .object "SleepBorder$Border"
  | _ => .object "SleepBorder$Border"
abbrev wsX10 : List Cond := u_ws RX1 TX1 2
theorem nmX1 : ∀ a, a < 2 → ∀ b, b < 2 → a ≠ b → (TX1 a).2.1 ≠ (TX1 b).2.1 := by decide +kernel
theorem tyX1_ok : ∀ k, k < 2 → parseFieldDescriptor (TX1 k).2.2.1 = some (tyX1 k) := by decide +kernel
abbrev cX1_init : ByteArray := prog_1_method_1_code
def yX1_init : MethodName := ⟨RX1, "<init>", "()V"⟩
abbrev cX1_addGuard : ByteArray := prog_1_method_2_code
def yX1_addGuard : MethodName := ⟨RX1, "addGuard", "()I"⟩
abbrev cX1_arrive : ByteArray := prog_1_method_3_code
def yX1_arrive : MethodName := ⟨RX1, "arrive", "(IIII)I"⟩
abbrev cX1_declare : ByteArray := prog_1_method_4_code
def yX1_declare : MethodName := ⟨RX1, "declare", "(II)I"⟩
abbrev cX1_sing : ByteArray := prog_1_method_5_code
def yX1_sing : MethodName := ⟨RX1, "sing", "(II)I"⟩
abbrev cX1_wake : ByteArray := prog_1_method_6_code
def yX1_wake : MethodName := ⟨RX1, "wake", "(I)I"⟩
abbrev cX1_pass : ByteArray := prog_1_method_7_code
def yX1_pass : MethodName := ⟨RX1, "pass", "(I)I"⟩
abbrev cX1_minute : ByteArray := prog_1_method_8_code
def yX1_minute : MethodName := ⟨RX1, "minute", "()I"⟩
abbrev cX1_travellers : ByteArray := prog_1_method_9_code
def yX1_travellers : MethodName := ⟨RX1, "travellers", "()I"⟩
abbrev cX1_waiting : ByteArray := prog_1_method_10_code
def yX1_waiting : MethodName := ⟨RX1, "waiting", "()I"⟩
abbrev cX1_asleep : ByteArray := prog_1_method_11_code
def yX1_asleep : MethodName := ⟨RX1, "asleep", "()I"⟩
abbrev cX1_sentBack : ByteArray := prog_1_method_12_code
def yX1_sentBack : MethodName := ⟨RX1, "sentBack", "()I"⟩
abbrev cX1_expired : ByteArray := prog_1_method_13_code
def yX1_expired : MethodName := ⟨RX1, "expired", "()I"⟩
abbrev cX1_paid : ByteArray := prog_1_method_14_code
def yX1_paid : MethodName := ⟨RX1, "paid", "()I"⟩
abbrev cX1_noise : ByteArray := prog_1_method_15_code
def yX1_noise : MethodName := ⟨RX1, "noise", "()I"⟩
abbrev cX1_nextInLine : ByteArray := prog_1_method_16_code
def yX1_nextInLine : MethodName := ⟨RX1, "nextInLine", "()I"⟩
abbrev cX1_stateOf : ByteArray := prog_1_method_17_code
def yX1_stateOf : MethodName := ⟨RX1, "stateOf", "(I)I"⟩
abbrev cX1_hiddenOf : ByteArray := prog_1_method_18_code
def yX1_hiddenOf : MethodName := ⟨RX1, "hiddenOf", "(I)I"⟩
abbrev cX1_lullabyOf : ByteArray := prog_1_method_19_code
def yX1_lullabyOf : MethodName := ⟨RX1, "lullabyOf", "(I)I"⟩
abbrev cX1_placeInLine : ByteArray := prog_1_method_20_code
def yX1_placeInLine : MethodName := ⟨RX1, "placeInLine", "(I)I"⟩
abbrev cX1_searchTime : ByteArray := prog_1_method_21_code
def yX1_searchTime : MethodName := ⟨RX1, "searchTime", "(I)I"⟩
abbrev cX1_guards : ByteArray := prog_1_method_22_code
def yX1_guards : MethodName := ⟨RX1, "guards", "()I"⟩
abbrev cX1_alertnessOf : ByteArray := prog_1_method_23_code
def yX1_alertnessOf : MethodName := ⟨RX1, "alertnessOf", "(I)I"⟩
abbrev cX1_searches : ByteArray := prog_1_method_24_code
def yX1_searches : MethodName := ⟨RX1, "searches", "(I)I"⟩
abbrev cX1_minutesToGo : ByteArray := prog_1_method_25_code
def yX1_minutesToGo : MethodName := ⟨RX1, "minutesToGo", "(I)I"⟩
abbrev cX1_wouldFind : ByteArray := prog_1_method_26_code
def yX1_wouldFind : MethodName := ⟨RX1, "wouldFind", "(II)Z"⟩
abbrev cX1_mostAlert : ByteArray := prog_1_method_27_code
def yX1_mostAlert : MethodName := ⟨RX1, "mostAlert", "()I"⟩
abbrev cX1_meanAlertness : ByteArray := prog_1_method_32_code
def yX1_meanAlertness : MethodName := ⟨RX1, "meanAlertness", "()D"⟩
abbrev cX1_requireTraveller : ByteArray := prog_1_method_38_code
def yX1_requireTraveller : MethodName := ⟨RX1, "requireTraveller", "(I)V"⟩
abbrev cX1_requireGuard : ByteArray := prog_1_method_39_code
def yX1_requireGuard : MethodName := ⟨RX1, "requireGuard", "(I)V"⟩
abbrev cX1_requireDigit : ByteArray := prog_1_method_40_code
def yX1_requireDigit : MethodName := ⟨RX1, "requireDigit", "(I)V"⟩
abbrev cX1_requireMinutes : ByteArray := prog_1_method_41_code
def yX1_requireMinutes : MethodName := ⟨RX1, "requireMinutes", "(I)V"⟩
abbrev cX1_requireWaiting : ByteArray := prog_1_method_42_code
def yX1_requireWaiting : MethodName := ⟨RX1, "requireWaiting", "(I)V"⟩
def RX2 : String := "SleepBorderLaw$Sim"
def TX2 : u_T := fun k => match k with
  | 0 => ("SleepBorderLaw$Sim", "minute", "I", false)
  | 1 => ("SleepBorderLaw$Sim", "expired", "I", false)
  | 2 => ("SleepBorderLaw$Sim", "paid", "I", false)
  | 3 => ("SleepBorderLaw$Sim", "guards", "[[I", false)
  | _ => ("SleepBorderLaw$Sim", "travellers", "[[I", false)
def tyX2 : Nat → FieldType := fun k => match k with
  | 0 => .int
  | 1 => .int
  | 2 => .int
  | 3 => .array (.array .int)
  | _ => .array (.array .int)
abbrev wsX20 : List Cond := u_ws RX2 TX2 5
theorem nmX2 : ∀ a, a < 5 → ∀ b, b < 5 → a ≠ b → (TX2 a).2.1 ≠ (TX2 b).2.1 := by decide +kernel
theorem tyX2_ok : ∀ k, k < 5 → parseFieldDescriptor (TX2 k).2.2.1 = some (tyX2 k) := by decide +kernel
abbrev cX2_init : ByteArray := prog_4_method_1_code
def yX2_init : MethodName := ⟨RX2, "<init>", "()V"⟩
abbrev cX2_with : ByteArray := prog_4_method_2_code
def yX2_with : MethodName := ⟨RX2, "with", "([[I[I)[[I"⟩
abbrev cX2_noise : ByteArray := prog_4_method_3_code
def yX2_noise : MethodName := ⟨RX2, "noise", "()I"⟩
abbrev cX2_count : ByteArray := prog_4_method_4_code
def yX2_count : MethodName := ⟨RX2, "count", "(I)I"⟩
abbrev cX2_hidden : ByteArray := prog_4_method_5_code
def yX2_hidden : MethodName := ⟨RX2, "hidden", "([I)I"⟩
abbrev cX2_next : ByteArray := prog_4_method_6_code
def yX2_next : MethodName := ⟨RX2, "next", "()I"⟩
abbrev cX2_finds : ByteArray := prog_4_method_7_code
def yX2_finds : MethodName := ⟨RX2, "finds", "([I[I)Z"⟩
abbrev cX2_pass : ByteArray := prog_4_method_8_code
def yX2_pass : MethodName := ⟨RX2, "pass", "()V"⟩
abbrev cX2_behind : ByteArray := prog_4_method_9_code
def yX2_behind : MethodName := ⟨RX2, "behind", "(I)I"⟩
abbrev cX2_isSame : ByteArray := prog_4_method_12_code
def yX2_isSame : MethodName := ⟨RX2, "isSame", "(LSleepBorder;)Z"⟩
def RX3 : String := "SleepBorderModel"
def TX3 : u_T := fun k => match k with
  | _ => ("", "", "", false)
def tyX3 : Nat → FieldType := fun k => match k with
  | _ => .int
abbrev wsX30 : List Cond := u_ws RX3 TX3 0
theorem nmX3 : ∀ a, a < 0 → ∀ b, b < 0 → a ≠ b → (TX3 a).2.1 ≠ (TX3 b).2.1 := by decide +kernel
theorem tyX3_ok : ∀ k, k < 0 → parseFieldDescriptor (TX3 k).2.2.1 = some (tyX3 k) := by decide +kernel
def RJ9 : String := "java/lang/Math"
def TJ9 : u_T := fun k => match k with
  | _ => ("", "", "", false)
def tyJ9 : Nat → FieldType := fun k => match k with
  | _ => .int
abbrev wsJ90 : List Cond := u_ws RJ9 TJ9 0
theorem nmJ9 : ∀ a, a < 0 → ∀ b, b < 0 → a ≠ b → (TJ9 a).2.1 ≠ (TJ9 b).2.1 := by decide +kernel
theorem tyJ9_ok : ∀ k, k < 0 → parseFieldDescriptor (TJ9 k).2.2.1 = some (tyJ9 k) := by decide +kernel
abbrev cJ9_max_7cf53 : ByteArray := prog_10_method_65_code
def yJ9_max_7cf53 : MethodName := ⟨RJ9, "max", "(II)I"⟩
abbrev cJ9_min_7cf53 : ByteArray := prog_10_method_69_code
def yJ9_min_7cf53 : MethodName := ⟨RJ9, "min", "(II)I"⟩
def RJ0 : String := "java/lang/String"
def TJ0 : u_T := fun k => match k with
  | _ => ("", "", "", false)
def tyJ0 : Nat → FieldType := fun k => match k with
  | _ => .int
abbrev wsJ00 : List Cond := u_ws RJ0 TJ0 0
theorem nmJ0 : ∀ a, a < 0 → ∀ b, b < 0 → a ≠ b → (TJ0 a).2.1 ≠ (TJ0 b).2.1 := by decide +kernel
theorem tyJ0_ok : ∀ k, k < 0 → parseFieldDescriptor (TJ0 k).2.2.1 = some (tyJ0 k) := by decide +kernel
def RL : String := "SleepBorderLaw"
abbrev cL_below : ByteArray := method_2_code
def yL_below : MethodName := ⟨RL, "below", "(II)I"⟩
abbrev cL_cell : ByteArray := method_3_code
def yL_cell : MethodName := ⟨RL, "cell", "([II)I"⟩
abbrev cL_act : ByteArray := method_4_code
def yL_act : MethodName := ⟨RL, "act", "(LSleepBorder;LSleepBorderLaw$Sim;I)Z"⟩
abbrev cL_build : ByteArray := method_5_code
def yL_build : MethodName := ⟨RL, "build", "(LSleepBorder;[I)LSleepBorderLaw$Sim;"⟩
abbrev cL_law : ByteArray := code
def yL_law : MethodName := ⟨RL, "law", "([I)Z"⟩
def wsX0_init : List Cond := .code yX0_init cX0_init 1 none :: ([.methodLink RX0 3 objectInit, .instanceMethod objectInit, .code objectInit ⟨#[0xb1]⟩ 1 none, .fieldLink RX0 9 "SleepBorder$Border" "clock" "I", .fieldLink RX0 15 "SleepBorder$Border" "expiredCount" "I", .fieldLink RX0 18 "SleepBorder$Border" "till" "I", .fieldLink RX0 21 "SleepBorder$Border" "travellerCount" "I", .arrayClass .int, .fieldLink RX0 24 "SleepBorder$Border" "dreams" "[I", .fieldLink RX0 28 "SleepBorder$Border" "declared" "[I", .fieldLink RX0 31 "SleepBorder$Border" "snore" "[I", .fieldLink RX0 34 "SleepBorder$Border" "lullaby" "[I", .fieldLink RX0 37 "SleepBorder$Border" "state" "[I", .fieldLink RX0 40 "SleepBorder$Border" "transitLeft" "[I", .fieldLink RX0 43 "SleepBorder$Border" "asleepSince" "[I", .fieldLink RX0 46 "SleepBorder$Border" "guardCount" "I", .fieldLink RX0 49 "SleepBorder$Border" "alertness" "[I", .fieldLink RX0 52 "SleepBorder$Border" "searched" "[I", .fieldLink RX0 55 "SleepBorder$Border" "searchLeft" "[I"] ++ wsX00)
def wsX0_admitGuard : List Cond := .code yX0_admitGuard cX0_admitGuard 1 none :: ([.fieldLink RX0 46 "SleepBorder$Border" "guardCount" "I", .fieldLink RX0 49 "SleepBorder$Border" "alertness" "[I", .fieldLink RX0 52 "SleepBorder$Border" "searched" "[I", .fieldLink RX0 55 "SleepBorder$Border" "searchLeft" "[I"] ++ wsX00)
def wsX0_admitTraveller : List Cond := .code yX0_admitTraveller cX0_admitTraveller 5 none :: ([.fieldLink RX0 21 "SleepBorder$Border" "travellerCount" "I", .fieldLink RX0 24 "SleepBorder$Border" "dreams" "[I", .fieldLink RX0 28 "SleepBorder$Border" "declared" "[I", .fieldLink RX0 31 "SleepBorder$Border" "snore" "[I", .fieldLink RX0 34 "SleepBorder$Border" "lullaby" "[I", .fieldLink RX0 37 "SleepBorder$Border" "state" "[I"] ++ wsX00)
def wsX0_isTraveller : List Cond := .code yX0_isTraveller cX0_isTraveller 2 (some .boolean) :: ([.fieldLink RX0 21 "SleepBorder$Border" "travellerCount" "I"] ++ wsX00)
def wsX0_isGuard : List Cond := .code yX0_isGuard cX0_isGuard 2 (some .boolean) :: ([.fieldLink RX0 46 "SleepBorder$Border" "guardCount" "I"] ++ wsX00)
def wsX0_countIn : List Cond := .code yX0_countIn cX0_countIn 4 (some .int) :: ([.fieldLink RX0 21 "SleepBorder$Border" "travellerCount" "I", .fieldLink RX0 37 "SleepBorder$Border" "state" "[I"] ++ wsX00)
def wsX0_waitingAhead : List Cond := .code yX0_waitingAhead cX0_waitingAhead 4 (some .int) :: ([.fieldLink RX0 21 "SleepBorder$Border" "travellerCount" "I", .fieldLink RX0 37 "SleepBorder$Border" "state" "[I"] ++ wsX00)
def wsX0_firstWaiting : List Cond := .code yX0_firstWaiting cX0_firstWaiting 2 (some .int) :: ([.fieldLink RX0 21 "SleepBorder$Border" "travellerCount" "I", .fieldLink RX0 37 "SleepBorder$Border" "state" "[I"] ++ wsX00)
def wsX0_addedSnores : List Cond := .code yX0_addedSnores cX0_addedSnores 3 (some .int) :: ([.fieldLink RX0 21 "SleepBorder$Border" "travellerCount" "I", .fieldLink RX0 37 "SleepBorder$Border" "state" "[I", .fieldLink RX0 31 "SleepBorder$Border" "snore" "[I"] ++ wsX00)
def wsX0_hiddenDreams : List Cond := .code yX0_hiddenDreams cX0_hiddenDreams 3 (some .int) :: ([.fieldLink RX0 24 "SleepBorder$Border" "dreams" "[I", .fieldLink RX0 28 "SleepBorder$Border" "declared" "[I"] ++ wsX00)
def wsX0_searchMinutes : List Cond := .code yX0_searchMinutes cX0_searchMinutes 2 (some .int) :: ([.fieldLink RX0 28 "SleepBorder$Border" "declared" "[I", .methodLink RX0 58 yX0_addedSnores, .instanceMethod yX0_addedSnores, .selects RX0 yX0_addedSnores yX0_addedSnores, .initialized RX0, .code yX0_addedSnores cX0_addedSnores 3 (some .int), .fieldLink RX0 21 "SleepBorder$Border" "travellerCount" "I", .fieldLink RX0 37 "SleepBorder$Border" "state" "[I", .fieldLink RX0 31 "SleepBorder$Border" "snore" "[I"] ++ wsX00)
def wsX0_finds : List Cond := .code yX0_finds cX0_finds 4 (some .boolean) :: ([.fieldLink RX0 49 "SleepBorder$Border" "alertness" "[I", .methodLink RX0 62 yX0_hiddenDreams, .instanceMethod yX0_hiddenDreams, .selects RX0 yX0_hiddenDreams yX0_hiddenDreams, .initialized RX0, .code yX0_hiddenDreams cX0_hiddenDreams 3 (some .int), .fieldLink RX0 24 "SleepBorder$Border" "dreams" "[I", .fieldLink RX0 28 "SleepBorder$Border" "declared" "[I"] ++ wsX00)
def wsX0_advanceTransits : List Cond := .code yX0_advanceTransits cX0_advanceTransits 2 none :: ([.fieldLink RX0 21 "SleepBorder$Border" "travellerCount" "I", .fieldLink RX0 37 "SleepBorder$Border" "state" "[I", .fieldLink RX0 40 "SleepBorder$Border" "transitLeft" "[I", .fieldLink RX0 43 "SleepBorder$Border" "asleepSince" "[I", .fieldLink RX0 9 "SleepBorder$Border" "clock" "I"] ++ wsX00)
def wsX0_shortenLullabies : List Cond := .code yX0_shortenLullabies cX0_shortenLullabies 2 none :: ([.fieldLink RX0 21 "SleepBorder$Border" "travellerCount" "I", .fieldLink RX0 37 "SleepBorder$Border" "state" "[I", .fieldLink RX0 34 "SleepBorder$Border" "lullaby" "[I", .fieldLink RX0 15 "SleepBorder$Border" "expiredCount" "I"] ++ wsX00)
def wsX0_searchOn : List Cond := .code yX0_searchOn cX0_searchOn 3 none :: ([.fieldLink RX0 55 "SleepBorder$Border" "searchLeft" "[I", .fieldLink RX0 18 "SleepBorder$Border" "till" "I", .fieldLink RX0 37 "SleepBorder$Border" "state" "[I", .fieldLink RX0 40 "SleepBorder$Border" "transitLeft" "[I", .fieldLink RX0 52 "SleepBorder$Border" "searched" "[I", .fieldLink RX0 49 "SleepBorder$Border" "alertness" "[I", .methodLink RX0 107 Lib.Math.max.name, .static Lib.Math.max.name, .initialized "java/lang/Math", .code Lib.Math.max.name Lib.Math.max.code 2 (some .int), .methodLink RX0 103 yX0_finds, .instanceMethod yX0_finds, .selects RX0 yX0_finds yX0_finds, .initialized RX0, .code yX0_finds cX0_finds 4 (some .boolean), .methodLink RX0 62 yX0_hiddenDreams, .instanceMethod yX0_hiddenDreams, .selects RX0 yX0_hiddenDreams yX0_hiddenDreams, .code yX0_hiddenDreams cX0_hiddenDreams 3 (some .int), .fieldLink RX0 24 "SleepBorder$Border" "dreams" "[I", .fieldLink RX0 28 "SleepBorder$Border" "declared" "[I"] ++ wsX00)
def wsX0_beginSearchOrRest_r1 : List Cond := [Cond.fieldLink RX0 52 "SleepBorder$Border" "searched" "[I", Cond.fieldLink RX0 55 "SleepBorder$Border" "searchLeft" "[I", Cond.fieldLink RX0 37 "SleepBorder$Border" "state" "[I", Cond.fieldLink RX0 49 "SleepBorder$Border" "alertness" "[I", Cond.methodLink RX0 97 Lib.Math.min.name, Cond.static Lib.Math.min.name, Cond.initialized "java/lang/Math", Cond.code Lib.Math.min.name Lib.Math.min.code 2 (some .int), Cond.methodLink RX0 91 yX0_firstWaiting, Cond.instanceMethod yX0_firstWaiting, Cond.selects RX0 yX0_firstWaiting yX0_firstWaiting, Cond.initialized RX0, Cond.code yX0_firstWaiting cX0_firstWaiting 2 (some .int), Cond.fieldLink RX0 21 "SleepBorder$Border" "travellerCount" "I", Cond.methodLink RX0 79 yX0_isTraveller, Cond.instanceMethod yX0_isTraveller, Cond.selects RX0 yX0_isTraveller yX0_isTraveller, Cond.code yX0_isTraveller cX0_isTraveller 2 (some .boolean), Cond.methodLink RX0 94 yX0_searchMinutes, Cond.instanceMethod yX0_searchMinutes, Cond.selects RX0 yX0_searchMinutes yX0_searchMinutes, Cond.code yX0_searchMinutes cX0_searchMinutes 2 (some .int), Cond.fieldLink RX0 28 "SleepBorder$Border" "declared" "[I", Cond.methodLink RX0 58 yX0_addedSnores]
def wsX0_beginSearchOrRest_r2 : List Cond := [Cond.instanceMethod yX0_addedSnores, Cond.selects RX0 yX0_addedSnores yX0_addedSnores, Cond.code yX0_addedSnores cX0_addedSnores 3 (some .int), Cond.fieldLink RX0 31 "SleepBorder$Border" "snore" "[I"]
def wsX0_beginSearchOrRest : List Cond := .code yX0_beginSearchOrRest cX0_beginSearchOrRest 3 none :: ((wsX0_beginSearchOrRest_r1 ++ wsX0_beginSearchOrRest_r2) ++ wsX00)
def wsX0_goOneMinute_r1 : List Cond := [Cond.fieldLink RX0 46 "SleepBorder$Border" "guardCount" "I", Cond.fieldLink RX0 52 "SleepBorder$Border" "searched" "[I", Cond.fieldLink RX0 9 "SleepBorder$Border" "clock" "I", Cond.methodLink RX0 73 yX0_advanceTransits, Cond.instanceMethod yX0_advanceTransits, Cond.selects RX0 yX0_advanceTransits yX0_advanceTransits, Cond.initialized RX0, Cond.code yX0_advanceTransits cX0_advanceTransits 2 none, Cond.fieldLink RX0 21 "SleepBorder$Border" "travellerCount" "I", Cond.fieldLink RX0 37 "SleepBorder$Border" "state" "[I", Cond.fieldLink RX0 40 "SleepBorder$Border" "transitLeft" "[I", Cond.fieldLink RX0 43 "SleepBorder$Border" "asleepSince" "[I", Cond.methodLink RX0 76 yX0_shortenLullabies, Cond.instanceMethod yX0_shortenLullabies, Cond.selects RX0 yX0_shortenLullabies yX0_shortenLullabies, Cond.code yX0_shortenLullabies cX0_shortenLullabies 2 none, Cond.fieldLink RX0 34 "SleepBorder$Border" "lullaby" "[I", Cond.fieldLink RX0 15 "SleepBorder$Border" "expiredCount" "I", Cond.methodLink RX0 79 yX0_isTraveller, Cond.instanceMethod yX0_isTraveller, Cond.selects RX0 yX0_isTraveller yX0_isTraveller, Cond.code yX0_isTraveller cX0_isTraveller 2 (some .boolean), Cond.methodLink RX0 83 yX0_searchOn, Cond.instanceMethod yX0_searchOn]
def wsX0_goOneMinute_r2 : List Cond := [Cond.selects RX0 yX0_searchOn yX0_searchOn, Cond.code yX0_searchOn cX0_searchOn 3 none, Cond.fieldLink RX0 55 "SleepBorder$Border" "searchLeft" "[I", Cond.fieldLink RX0 18 "SleepBorder$Border" "till" "I", Cond.fieldLink RX0 49 "SleepBorder$Border" "alertness" "[I", Cond.methodLink RX0 107 Lib.Math.max.name, Cond.static Lib.Math.max.name, Cond.initialized "java/lang/Math", Cond.code Lib.Math.max.name Lib.Math.max.code 2 (some .int), Cond.methodLink RX0 103 yX0_finds, Cond.instanceMethod yX0_finds, Cond.selects RX0 yX0_finds yX0_finds, Cond.code yX0_finds cX0_finds 4 (some .boolean), Cond.methodLink RX0 62 yX0_hiddenDreams, Cond.instanceMethod yX0_hiddenDreams, Cond.selects RX0 yX0_hiddenDreams yX0_hiddenDreams, Cond.code yX0_hiddenDreams cX0_hiddenDreams 3 (some .int), Cond.fieldLink RX0 24 "SleepBorder$Border" "dreams" "[I", Cond.fieldLink RX0 28 "SleepBorder$Border" "declared" "[I", Cond.methodLink RX0 87 yX0_beginSearchOrRest, Cond.instanceMethod yX0_beginSearchOrRest, Cond.selects RX0 yX0_beginSearchOrRest yX0_beginSearchOrRest, Cond.code yX0_beginSearchOrRest cX0_beginSearchOrRest 3 none, Cond.methodLink RX0 97 Lib.Math.min.name]
def wsX0_goOneMinute_r3 : List Cond := [Cond.static Lib.Math.min.name, Cond.code Lib.Math.min.name Lib.Math.min.code 2 (some .int), Cond.methodLink RX0 91 yX0_firstWaiting, Cond.instanceMethod yX0_firstWaiting, Cond.selects RX0 yX0_firstWaiting yX0_firstWaiting, Cond.code yX0_firstWaiting cX0_firstWaiting 2 (some .int), Cond.methodLink RX0 94 yX0_searchMinutes, Cond.instanceMethod yX0_searchMinutes, Cond.selects RX0 yX0_searchMinutes yX0_searchMinutes, Cond.code yX0_searchMinutes cX0_searchMinutes 2 (some .int), Cond.methodLink RX0 58 yX0_addedSnores, Cond.instanceMethod yX0_addedSnores, Cond.selects RX0 yX0_addedSnores yX0_addedSnores, Cond.code yX0_addedSnores cX0_addedSnores 3 (some .int), Cond.fieldLink RX0 31 "SleepBorder$Border" "snore" "[I"]
def wsX0_goOneMinute : List Cond := .code yX0_goOneMinute cX0_goOneMinute 3 none :: ((wsX0_goOneMinute_r1 ++ (wsX0_goOneMinute_r2 ++ wsX0_goOneMinute_r3)) ++ wsX00)
def wsX1_init_r1 : List Cond := [Cond.methodLink RX1 1 objectInit, Cond.instanceMethod objectInit, Cond.code objectInit ⟨#[0xb1]⟩ 1 none, Cond.classLink RX1 7 RX0, Cond.instantiable RX0 15, Cond.initialized RX0, Cond.fieldLink RX1 10 "SleepBorder" "now" "LSleepBorder$Border;", Cond.fieldLink RX1 16 "SleepBorder" "trial" "LSleepBorder$Border;", Cond.instanceMethod yX0_init, Cond.code yX0_init cX0_init 1 none, Cond.methodLink RX0 3 objectInit, Cond.fieldLink RX0 9 "SleepBorder$Border" "clock" "I", Cond.fieldLink RX0 15 "SleepBorder$Border" "expiredCount" "I", Cond.fieldLink RX0 18 "SleepBorder$Border" "till" "I", Cond.fieldLink RX0 21 "SleepBorder$Border" "travellerCount" "I", Cond.arrayClass .int, Cond.fieldLink RX0 24 "SleepBorder$Border" "dreams" "[I", Cond.fieldLink RX0 28 "SleepBorder$Border" "declared" "[I", Cond.fieldLink RX0 31 "SleepBorder$Border" "snore" "[I", Cond.fieldLink RX0 34 "SleepBorder$Border" "lullaby" "[I", Cond.fieldLink RX0 37 "SleepBorder$Border" "state" "[I", Cond.fieldLink RX0 40 "SleepBorder$Border" "transitLeft" "[I", Cond.fieldLink RX0 43 "SleepBorder$Border" "asleepSince" "[I", Cond.fieldLink RX0 46 "SleepBorder$Border" "guardCount" "I"]
def wsX1_init_r2 : List Cond := [Cond.fieldLink RX0 49 "SleepBorder$Border" "alertness" "[I", Cond.fieldLink RX0 52 "SleepBorder$Border" "searched" "[I", Cond.fieldLink RX0 55 "SleepBorder$Border" "searchLeft" "[I"]
def wsX1_init : List Cond := .code yX1_init cX1_init 1 none :: ((wsX1_init_r1 ++ wsX1_init_r2) ++ wsX00 ++ wsX10)
def wsX1_addGuard : List Cond := .code yX1_addGuard cX1_addGuard 1 (some .int) :: ([.classLink RX1 23 "java/lang/IllegalStateException", .initialized "java/lang/IllegalStateException", .fieldLink RX1 10 "SleepBorder" "now" "LSleepBorder$Border;", .fieldLink RX1 19 "SleepBorder$Border" "guardCount" "I", .methodLink RX1 30 yX0_admitGuard, .instanceMethod yX0_admitGuard, .selects RX0 yX0_admitGuard yX0_admitGuard, .initialized RX0, .code yX0_admitGuard cX0_admitGuard 1 none, .fieldLink RX0 46 "SleepBorder$Border" "guardCount" "I", .fieldLink RX0 49 "SleepBorder$Border" "alertness" "[I", .fieldLink RX0 52 "SleepBorder$Border" "searched" "[I", .fieldLink RX0 55 "SleepBorder$Border" "searchLeft" "[I"] ++ wsX10 ++ wsX00 ++ (vx_atS RX1 27 "java/lang/IllegalStateException" ["java/lang/RuntimeException", "java/lang/Exception"]).filter goodWord)
def wsX1_requireDigit : List Cond := .code yX1_requireDigit cX1_requireDigit 1 none :: ([.classLink RX1 218 "java/lang/IllegalArgumentException", .initialized "java/lang/IllegalArgumentException"] ++ (vx_atS RX1 222 "java/lang/IllegalArgumentException" ["java/lang/RuntimeException", "java/lang/Exception"]).filter goodWord)
def wsX1_requireMinutes : List Cond := .code yX1_requireMinutes cX1_requireMinutes 1 none :: ([.classLink RX1 218 "java/lang/IllegalArgumentException", .initialized "java/lang/IllegalArgumentException"] ++ (vx_atS RX1 222 "java/lang/IllegalArgumentException" ["java/lang/RuntimeException", "java/lang/Exception"]).filter goodWord)
def wsX1_arrive : List Cond := .code yX1_arrive cX1_arrive 5 (some .int) :: ([.classLink RX1 23 "java/lang/IllegalStateException", .initialized "java/lang/IllegalStateException", .fieldLink RX1 10 "SleepBorder" "now" "LSleepBorder$Border;", .fieldLink RX1 40 "SleepBorder$Border" "travellerCount" "I", .methodLink RX1 33 yX1_requireDigit, .static yX1_requireDigit, .initialized RX1, .code yX1_requireDigit cX1_requireDigit 1 none, .classLink RX1 218 "java/lang/IllegalArgumentException", .initialized "java/lang/IllegalArgumentException", .methodLink RX1 37 yX1_requireMinutes, .static yX1_requireMinutes, .code yX1_requireMinutes cX1_requireMinutes 1 none, .methodLink RX1 45 yX0_admitTraveller, .instanceMethod yX0_admitTraveller, .selects RX0 yX0_admitTraveller yX0_admitTraveller, .initialized RX0, .code yX0_admitTraveller cX0_admitTraveller 5 none, .fieldLink RX0 21 "SleepBorder$Border" "travellerCount" "I", .fieldLink RX0 24 "SleepBorder$Border" "dreams" "[I", .fieldLink RX0 28 "SleepBorder$Border" "declared" "[I", .fieldLink RX0 31 "SleepBorder$Border" "snore" "[I", .fieldLink RX0 34 "SleepBorder$Border" "lullaby" "[I", .fieldLink RX0 37 "SleepBorder$Border" "state" "[I"] ++ wsX10 ++ wsX00 ++ (vx_atS RX1 27 "java/lang/IllegalStateException" ["java/lang/RuntimeException", "java/lang/Exception"]).filter goodWord ++ (vx_atS RX1 222 "java/lang/IllegalArgumentException" ["java/lang/RuntimeException", "java/lang/Exception"]).filter goodWord)
def wsX1_requireTraveller : List Cond := .code yX1_requireTraveller cX1_requireTraveller 2 none :: ([.classLink RX1 208 "java/lang/IndexOutOfBoundsException", .initialized "java/lang/IndexOutOfBoundsException", .fieldLink RX1 10 "SleepBorder" "now" "LSleepBorder$Border;", .methodLink RX1 204 yX0_isTraveller, .instanceMethod yX0_isTraveller, .selects RX0 yX0_isTraveller yX0_isTraveller, .initialized RX0, .code yX0_isTraveller cX0_isTraveller 2 (some .boolean), .fieldLink RX0 21 "SleepBorder$Border" "travellerCount" "I"] ++ wsX10 ++ wsX00 ++ (vx_atS RX1 212 "java/lang/IndexOutOfBoundsException" ["java/lang/RuntimeException", "java/lang/Exception"]).filter goodWord)
def wsX1_requireWaiting : List Cond := .code yX1_requireWaiting cX1_requireWaiting 2 none :: ([.classLink RX1 23 "java/lang/IllegalStateException", .initialized "java/lang/IllegalStateException", .fieldLink RX1 10 "SleepBorder" "now" "LSleepBorder$Border;", .fieldLink RX1 91 "SleepBorder$Border" "state" "[I"] ++ wsX10 ++ wsX00 ++ (vx_atS RX1 27 "java/lang/IllegalStateException" ["java/lang/RuntimeException", "java/lang/Exception"]).filter goodWord)
def wsX1_declare_r1 : List Cond := [Cond.fieldLink RX1 10 "SleepBorder" "now" "LSleepBorder$Border;", Cond.fieldLink RX1 55 "SleepBorder$Border" "declared" "[I", Cond.methodLink RX1 49 yX1_requireTraveller, Cond.instanceMethod yX1_requireTraveller, Cond.selects RX1 yX1_requireTraveller yX1_requireTraveller, Cond.initialized RX1, Cond.code yX1_requireTraveller cX1_requireTraveller 2 none, Cond.classLink RX1 208 "java/lang/IndexOutOfBoundsException", Cond.initialized "java/lang/IndexOutOfBoundsException", Cond.methodLink RX1 204 yX0_isTraveller, Cond.instanceMethod yX0_isTraveller, Cond.selects RX0 yX0_isTraveller yX0_isTraveller, Cond.initialized RX0, Cond.code yX0_isTraveller cX0_isTraveller 2 (some .boolean), Cond.fieldLink RX0 21 "SleepBorder$Border" "travellerCount" "I", Cond.methodLink RX1 33 yX1_requireDigit, Cond.static yX1_requireDigit, Cond.code yX1_requireDigit cX1_requireDigit 1 none, Cond.classLink RX1 218 "java/lang/IllegalArgumentException", Cond.initialized "java/lang/IllegalArgumentException", Cond.methodLink RX1 52 yX1_requireWaiting, Cond.instanceMethod yX1_requireWaiting, Cond.selects RX1 yX1_requireWaiting yX1_requireWaiting, Cond.code yX1_requireWaiting cX1_requireWaiting 2 none]
def wsX1_declare_r2 : List Cond := [Cond.classLink RX1 23 "java/lang/IllegalStateException", Cond.initialized "java/lang/IllegalStateException", Cond.fieldLink RX1 91 "SleepBorder$Border" "state" "[I"]
def wsX1_declare : List Cond := .code yX1_declare cX1_declare 4 (some .int) :: ((wsX1_declare_r1 ++ wsX1_declare_r2) ++ wsX10 ++ wsX00 ++ (vx_atS RX1 212 "java/lang/IndexOutOfBoundsException" ["java/lang/RuntimeException", "java/lang/Exception"]).filter goodWord ++ (vx_atS RX1 222 "java/lang/IllegalArgumentException" ["java/lang/RuntimeException", "java/lang/Exception"]).filter goodWord ++ (vx_atS RX1 27 "java/lang/IllegalStateException" ["java/lang/RuntimeException", "java/lang/Exception"]).filter goodWord)
def wsX1_sing_r1 : List Cond := [Cond.fieldLink RX1 10 "SleepBorder" "now" "LSleepBorder$Border;", Cond.fieldLink RX1 59 "SleepBorder$Border" "lullaby" "[I", Cond.methodLink RX1 49 yX1_requireTraveller, Cond.instanceMethod yX1_requireTraveller, Cond.selects RX1 yX1_requireTraveller yX1_requireTraveller, Cond.initialized RX1, Cond.code yX1_requireTraveller cX1_requireTraveller 2 none, Cond.classLink RX1 208 "java/lang/IndexOutOfBoundsException", Cond.initialized "java/lang/IndexOutOfBoundsException", Cond.methodLink RX1 204 yX0_isTraveller, Cond.instanceMethod yX0_isTraveller, Cond.selects RX0 yX0_isTraveller yX0_isTraveller, Cond.initialized RX0, Cond.code yX0_isTraveller cX0_isTraveller 2 (some .boolean), Cond.fieldLink RX0 21 "SleepBorder$Border" "travellerCount" "I", Cond.methodLink RX1 37 yX1_requireMinutes, Cond.static yX1_requireMinutes, Cond.code yX1_requireMinutes cX1_requireMinutes 1 none, Cond.classLink RX1 218 "java/lang/IllegalArgumentException", Cond.initialized "java/lang/IllegalArgumentException", Cond.methodLink RX1 52 yX1_requireWaiting, Cond.instanceMethod yX1_requireWaiting, Cond.selects RX1 yX1_requireWaiting yX1_requireWaiting, Cond.code yX1_requireWaiting cX1_requireWaiting 2 none]
def wsX1_sing_r2 : List Cond := [Cond.classLink RX1 23 "java/lang/IllegalStateException", Cond.initialized "java/lang/IllegalStateException", Cond.fieldLink RX1 91 "SleepBorder$Border" "state" "[I"]
def wsX1_sing : List Cond := .code yX1_sing cX1_sing 4 (some .int) :: ((wsX1_sing_r1 ++ wsX1_sing_r2) ++ wsX10 ++ wsX00 ++ (vx_atS RX1 212 "java/lang/IndexOutOfBoundsException" ["java/lang/RuntimeException", "java/lang/Exception"]).filter goodWord ++ (vx_atS RX1 222 "java/lang/IllegalArgumentException" ["java/lang/RuntimeException", "java/lang/Exception"]).filter goodWord ++ (vx_atS RX1 27 "java/lang/IllegalStateException" ["java/lang/RuntimeException", "java/lang/Exception"]).filter goodWord)
def wsX1_requireGuard : List Cond := .code yX1_requireGuard cX1_requireGuard 2 none :: ([.classLink RX1 208 "java/lang/IndexOutOfBoundsException", .initialized "java/lang/IndexOutOfBoundsException", .fieldLink RX1 10 "SleepBorder" "now" "LSleepBorder$Border;", .methodLink RX1 213 yX0_isGuard, .instanceMethod yX0_isGuard, .selects RX0 yX0_isGuard yX0_isGuard, .initialized RX0, .code yX0_isGuard cX0_isGuard 2 (some .boolean), .fieldLink RX0 46 "SleepBorder$Border" "guardCount" "I"] ++ wsX10 ++ wsX00 ++ (vx_atS RX1 212 "java/lang/IndexOutOfBoundsException" ["java/lang/RuntimeException", "java/lang/Exception"]).filter goodWord)
def wsX1_wake : List Cond := .code yX1_wake cX1_wake 3 (some .int) :: ([.fieldLink RX1 10 "SleepBorder" "now" "LSleepBorder$Border;", .fieldLink RX1 65 "SleepBorder$Border" "alertness" "[I", .methodLink RX1 62 yX1_requireGuard, .instanceMethod yX1_requireGuard, .selects RX1 yX1_requireGuard yX1_requireGuard, .initialized RX1, .code yX1_requireGuard cX1_requireGuard 2 none, .classLink RX1 208 "java/lang/IndexOutOfBoundsException", .initialized "java/lang/IndexOutOfBoundsException", .methodLink RX1 213 yX0_isGuard, .instanceMethod yX0_isGuard, .selects RX0 yX0_isGuard yX0_isGuard, .initialized RX0, .code yX0_isGuard cX0_isGuard 2 (some .boolean), .fieldLink RX0 46 "SleepBorder$Border" "guardCount" "I"] ++ wsX10 ++ wsX00 ++ (vx_atS RX1 212 "java/lang/IndexOutOfBoundsException" ["java/lang/RuntimeException", "java/lang/Exception"]).filter goodWord)
def wsX1_pass_r1 : List Cond := [Cond.fieldLink RX1 10 "SleepBorder" "now" "LSleepBorder$Border;", Cond.methodLink RX1 37 yX1_requireMinutes, Cond.static yX1_requireMinutes, Cond.initialized RX1, Cond.code yX1_requireMinutes cX1_requireMinutes 1 none, Cond.classLink RX1 218 "java/lang/IllegalArgumentException", Cond.initialized "java/lang/IllegalArgumentException", Cond.methodLink RX1 68 yX0_countIn, Cond.instanceMethod yX0_countIn, Cond.selects RX0 yX0_countIn yX0_countIn, Cond.initialized RX0, Cond.code yX0_countIn cX0_countIn 4 (some .int), Cond.fieldLink RX0 21 "SleepBorder$Border" "travellerCount" "I", Cond.fieldLink RX0 37 "SleepBorder$Border" "state" "[I", Cond.methodLink RX1 72 yX0_goOneMinute, Cond.instanceMethod yX0_goOneMinute, Cond.selects RX0 yX0_goOneMinute yX0_goOneMinute, Cond.code yX0_goOneMinute cX0_goOneMinute 3 none, Cond.fieldLink RX0 46 "SleepBorder$Border" "guardCount" "I", Cond.fieldLink RX0 52 "SleepBorder$Border" "searched" "[I", Cond.fieldLink RX0 9 "SleepBorder$Border" "clock" "I", Cond.methodLink RX0 73 yX0_advanceTransits, Cond.instanceMethod yX0_advanceTransits, Cond.selects RX0 yX0_advanceTransits yX0_advanceTransits]
def wsX1_pass_r2 : List Cond := [Cond.code yX0_advanceTransits cX0_advanceTransits 2 none, Cond.fieldLink RX0 40 "SleepBorder$Border" "transitLeft" "[I", Cond.fieldLink RX0 43 "SleepBorder$Border" "asleepSince" "[I", Cond.methodLink RX0 76 yX0_shortenLullabies, Cond.instanceMethod yX0_shortenLullabies, Cond.selects RX0 yX0_shortenLullabies yX0_shortenLullabies, Cond.code yX0_shortenLullabies cX0_shortenLullabies 2 none, Cond.fieldLink RX0 34 "SleepBorder$Border" "lullaby" "[I", Cond.fieldLink RX0 15 "SleepBorder$Border" "expiredCount" "I", Cond.methodLink RX0 79 yX0_isTraveller, Cond.instanceMethod yX0_isTraveller, Cond.selects RX0 yX0_isTraveller yX0_isTraveller, Cond.code yX0_isTraveller cX0_isTraveller 2 (some .boolean), Cond.methodLink RX0 83 yX0_searchOn, Cond.instanceMethod yX0_searchOn, Cond.selects RX0 yX0_searchOn yX0_searchOn, Cond.code yX0_searchOn cX0_searchOn 3 none, Cond.fieldLink RX0 55 "SleepBorder$Border" "searchLeft" "[I", Cond.fieldLink RX0 18 "SleepBorder$Border" "till" "I", Cond.fieldLink RX0 49 "SleepBorder$Border" "alertness" "[I", Cond.methodLink RX0 107 Lib.Math.max.name, Cond.static Lib.Math.max.name, Cond.initialized "java/lang/Math", Cond.code Lib.Math.max.name Lib.Math.max.code 2 (some .int)]
def wsX1_pass_r3 : List Cond := [Cond.methodLink RX0 103 yX0_finds, Cond.instanceMethod yX0_finds, Cond.selects RX0 yX0_finds yX0_finds, Cond.code yX0_finds cX0_finds 4 (some .boolean), Cond.methodLink RX0 62 yX0_hiddenDreams, Cond.instanceMethod yX0_hiddenDreams, Cond.selects RX0 yX0_hiddenDreams yX0_hiddenDreams, Cond.code yX0_hiddenDreams cX0_hiddenDreams 3 (some .int), Cond.fieldLink RX0 24 "SleepBorder$Border" "dreams" "[I", Cond.fieldLink RX0 28 "SleepBorder$Border" "declared" "[I", Cond.methodLink RX0 87 yX0_beginSearchOrRest, Cond.instanceMethod yX0_beginSearchOrRest, Cond.selects RX0 yX0_beginSearchOrRest yX0_beginSearchOrRest, Cond.code yX0_beginSearchOrRest cX0_beginSearchOrRest 3 none, Cond.methodLink RX0 97 Lib.Math.min.name, Cond.static Lib.Math.min.name, Cond.code Lib.Math.min.name Lib.Math.min.code 2 (some .int), Cond.methodLink RX0 91 yX0_firstWaiting, Cond.instanceMethod yX0_firstWaiting, Cond.selects RX0 yX0_firstWaiting yX0_firstWaiting, Cond.code yX0_firstWaiting cX0_firstWaiting 2 (some .int), Cond.methodLink RX0 94 yX0_searchMinutes, Cond.instanceMethod yX0_searchMinutes, Cond.selects RX0 yX0_searchMinutes yX0_searchMinutes]
def wsX1_pass_r4 : List Cond := [Cond.code yX0_searchMinutes cX0_searchMinutes 2 (some .int), Cond.methodLink RX0 58 yX0_addedSnores, Cond.instanceMethod yX0_addedSnores, Cond.selects RX0 yX0_addedSnores yX0_addedSnores, Cond.code yX0_addedSnores cX0_addedSnores 3 (some .int), Cond.fieldLink RX0 31 "SleepBorder$Border" "snore" "[I"]
def wsX1_pass : List Cond := .code yX1_pass cX1_pass 4 (some .int) :: ((wsX1_pass_r1 ++ (wsX1_pass_r2 ++ (wsX1_pass_r3 ++ wsX1_pass_r4))) ++ wsX10 ++ wsX00 ++ (vx_atS RX1 222 "java/lang/IllegalArgumentException" ["java/lang/RuntimeException", "java/lang/Exception"]).filter goodWord)
def wsX1_minute : List Cond := .code yX1_minute cX1_minute 1 (some .int) :: ([.fieldLink RX1 10 "SleepBorder" "now" "LSleepBorder$Border;", .fieldLink RX1 75 "SleepBorder$Border" "clock" "I"] ++ wsX10 ++ wsX00)
def wsX1_travellers : List Cond := .code yX1_travellers cX1_travellers 1 (some .int) :: ([.fieldLink RX1 10 "SleepBorder" "now" "LSleepBorder$Border;", .fieldLink RX1 40 "SleepBorder$Border" "travellerCount" "I"] ++ wsX10 ++ wsX00)
def wsX1_waiting : List Cond := .code yX1_waiting cX1_waiting 1 (some .int) :: ([.fieldLink RX1 10 "SleepBorder" "now" "LSleepBorder$Border;", .methodLink RX1 68 yX0_countIn, .instanceMethod yX0_countIn, .selects RX0 yX0_countIn yX0_countIn, .initialized RX0, .code yX0_countIn cX0_countIn 4 (some .int), .fieldLink RX0 21 "SleepBorder$Border" "travellerCount" "I", .fieldLink RX0 37 "SleepBorder$Border" "state" "[I"] ++ wsX10 ++ wsX00)
def wsX1_asleep : List Cond := .code yX1_asleep cX1_asleep 1 (some .int) :: ([.fieldLink RX1 10 "SleepBorder" "now" "LSleepBorder$Border;", .methodLink RX1 68 yX0_countIn, .instanceMethod yX0_countIn, .selects RX0 yX0_countIn yX0_countIn, .initialized RX0, .code yX0_countIn cX0_countIn 4 (some .int), .fieldLink RX0 21 "SleepBorder$Border" "travellerCount" "I", .fieldLink RX0 37 "SleepBorder$Border" "state" "[I"] ++ wsX10 ++ wsX00)
def wsX1_sentBack : List Cond := .code yX1_sentBack cX1_sentBack 1 (some .int) :: ([.fieldLink RX1 10 "SleepBorder" "now" "LSleepBorder$Border;", .methodLink RX1 68 yX0_countIn, .instanceMethod yX0_countIn, .selects RX0 yX0_countIn yX0_countIn, .initialized RX0, .code yX0_countIn cX0_countIn 4 (some .int), .fieldLink RX0 21 "SleepBorder$Border" "travellerCount" "I", .fieldLink RX0 37 "SleepBorder$Border" "state" "[I"] ++ wsX10 ++ wsX00)
def wsX1_expired : List Cond := .code yX1_expired cX1_expired 1 (some .int) :: ([.fieldLink RX1 10 "SleepBorder" "now" "LSleepBorder$Border;", .fieldLink RX1 78 "SleepBorder$Border" "expiredCount" "I"] ++ wsX10 ++ wsX00)
def wsX1_paid : List Cond := .code yX1_paid cX1_paid 1 (some .int) :: ([.fieldLink RX1 10 "SleepBorder" "now" "LSleepBorder$Border;", .fieldLink RX1 81 "SleepBorder$Border" "till" "I"] ++ wsX10 ++ wsX00)
def wsX1_noise : List Cond := .code yX1_noise cX1_noise 1 (some .int) :: ([.fieldLink RX1 10 "SleepBorder" "now" "LSleepBorder$Border;", .methodLink RX1 84 yX0_addedSnores, .instanceMethod yX0_addedSnores, .selects RX0 yX0_addedSnores yX0_addedSnores, .initialized RX0, .code yX0_addedSnores cX0_addedSnores 3 (some .int), .fieldLink RX0 21 "SleepBorder$Border" "travellerCount" "I", .fieldLink RX0 37 "SleepBorder$Border" "state" "[I", .fieldLink RX0 31 "SleepBorder$Border" "snore" "[I"] ++ wsX10 ++ wsX00)
def wsX1_nextInLine : List Cond := .code yX1_nextInLine cX1_nextInLine 1 (some .int) :: ([.fieldLink RX1 10 "SleepBorder" "now" "LSleepBorder$Border;", .methodLink RX1 88 yX0_firstWaiting, .instanceMethod yX0_firstWaiting, .selects RX0 yX0_firstWaiting yX0_firstWaiting, .initialized RX0, .code yX0_firstWaiting cX0_firstWaiting 2 (some .int), .fieldLink RX0 21 "SleepBorder$Border" "travellerCount" "I", .fieldLink RX0 37 "SleepBorder$Border" "state" "[I"] ++ wsX10 ++ wsX00)
def wsX1_stateOf : List Cond := .code yX1_stateOf cX1_stateOf 2 (some .int) :: ([.fieldLink RX1 10 "SleepBorder" "now" "LSleepBorder$Border;", .fieldLink RX1 91 "SleepBorder$Border" "state" "[I", .methodLink RX1 49 yX1_requireTraveller, .instanceMethod yX1_requireTraveller, .selects RX1 yX1_requireTraveller yX1_requireTraveller, .initialized RX1, .code yX1_requireTraveller cX1_requireTraveller 2 none, .classLink RX1 208 "java/lang/IndexOutOfBoundsException", .initialized "java/lang/IndexOutOfBoundsException", .methodLink RX1 204 yX0_isTraveller, .instanceMethod yX0_isTraveller, .selects RX0 yX0_isTraveller yX0_isTraveller, .initialized RX0, .code yX0_isTraveller cX0_isTraveller 2 (some .boolean), .fieldLink RX0 21 "SleepBorder$Border" "travellerCount" "I"] ++ wsX10 ++ wsX00 ++ (vx_atS RX1 212 "java/lang/IndexOutOfBoundsException" ["java/lang/RuntimeException", "java/lang/Exception"]).filter goodWord)
def wsX1_hiddenOf : List Cond := .code yX1_hiddenOf cX1_hiddenOf 2 (some .int) :: ([.fieldLink RX1 10 "SleepBorder" "now" "LSleepBorder$Border;", .methodLink RX1 49 yX1_requireTraveller, .instanceMethod yX1_requireTraveller, .selects RX1 yX1_requireTraveller yX1_requireTraveller, .initialized RX1, .code yX1_requireTraveller cX1_requireTraveller 2 none, .classLink RX1 208 "java/lang/IndexOutOfBoundsException", .initialized "java/lang/IndexOutOfBoundsException", .methodLink RX1 204 yX0_isTraveller, .instanceMethod yX0_isTraveller, .selects RX0 yX0_isTraveller yX0_isTraveller, .initialized RX0, .code yX0_isTraveller cX0_isTraveller 2 (some .boolean), .fieldLink RX0 21 "SleepBorder$Border" "travellerCount" "I", .methodLink RX1 94 yX0_hiddenDreams, .instanceMethod yX0_hiddenDreams, .selects RX0 yX0_hiddenDreams yX0_hiddenDreams, .code yX0_hiddenDreams cX0_hiddenDreams 3 (some .int), .fieldLink RX0 24 "SleepBorder$Border" "dreams" "[I", .fieldLink RX0 28 "SleepBorder$Border" "declared" "[I"] ++ wsX10 ++ wsX00 ++ (vx_atS RX1 212 "java/lang/IndexOutOfBoundsException" ["java/lang/RuntimeException", "java/lang/Exception"]).filter goodWord)
def wsX1_lullabyOf : List Cond := .code yX1_lullabyOf cX1_lullabyOf 2 (some .int) :: ([.fieldLink RX1 10 "SleepBorder" "now" "LSleepBorder$Border;", .fieldLink RX1 59 "SleepBorder$Border" "lullaby" "[I", .methodLink RX1 49 yX1_requireTraveller, .instanceMethod yX1_requireTraveller, .selects RX1 yX1_requireTraveller yX1_requireTraveller, .initialized RX1, .code yX1_requireTraveller cX1_requireTraveller 2 none, .classLink RX1 208 "java/lang/IndexOutOfBoundsException", .initialized "java/lang/IndexOutOfBoundsException", .methodLink RX1 204 yX0_isTraveller, .instanceMethod yX0_isTraveller, .selects RX0 yX0_isTraveller yX0_isTraveller, .initialized RX0, .code yX0_isTraveller cX0_isTraveller 2 (some .boolean), .fieldLink RX0 21 "SleepBorder$Border" "travellerCount" "I"] ++ wsX10 ++ wsX00 ++ (vx_atS RX1 212 "java/lang/IndexOutOfBoundsException" ["java/lang/RuntimeException", "java/lang/Exception"]).filter goodWord)
def wsX1_placeInLine : List Cond := .code yX1_placeInLine cX1_placeInLine 2 (some .int) :: ([.fieldLink RX1 10 "SleepBorder" "now" "LSleepBorder$Border;", .fieldLink RX1 91 "SleepBorder$Border" "state" "[I", .methodLink RX1 49 yX1_requireTraveller, .instanceMethod yX1_requireTraveller, .selects RX1 yX1_requireTraveller yX1_requireTraveller, .initialized RX1, .code yX1_requireTraveller cX1_requireTraveller 2 none, .classLink RX1 208 "java/lang/IndexOutOfBoundsException", .initialized "java/lang/IndexOutOfBoundsException", .methodLink RX1 204 yX0_isTraveller, .instanceMethod yX0_isTraveller, .selects RX0 yX0_isTraveller yX0_isTraveller, .initialized RX0, .code yX0_isTraveller cX0_isTraveller 2 (some .boolean), .fieldLink RX0 21 "SleepBorder$Border" "travellerCount" "I", .methodLink RX1 97 yX0_waitingAhead, .instanceMethod yX0_waitingAhead, .selects RX0 yX0_waitingAhead yX0_waitingAhead, .code yX0_waitingAhead cX0_waitingAhead 4 (some .int), .fieldLink RX0 37 "SleepBorder$Border" "state" "[I"] ++ wsX10 ++ wsX00 ++ (vx_atS RX1 212 "java/lang/IndexOutOfBoundsException" ["java/lang/RuntimeException", "java/lang/Exception"]).filter goodWord)
def wsX1_searchTime_r1 : List Cond := [Cond.fieldLink RX1 10 "SleepBorder" "now" "LSleepBorder$Border;", Cond.methodLink RX1 49 yX1_requireTraveller, Cond.instanceMethod yX1_requireTraveller, Cond.selects RX1 yX1_requireTraveller yX1_requireTraveller, Cond.initialized RX1, Cond.code yX1_requireTraveller cX1_requireTraveller 2 none, Cond.classLink RX1 208 "java/lang/IndexOutOfBoundsException", Cond.initialized "java/lang/IndexOutOfBoundsException", Cond.methodLink RX1 204 yX0_isTraveller, Cond.instanceMethod yX0_isTraveller, Cond.selects RX0 yX0_isTraveller yX0_isTraveller, Cond.initialized RX0, Cond.code yX0_isTraveller cX0_isTraveller 2 (some .boolean), Cond.fieldLink RX0 21 "SleepBorder$Border" "travellerCount" "I", Cond.methodLink RX1 100 yX0_searchMinutes, Cond.instanceMethod yX0_searchMinutes, Cond.selects RX0 yX0_searchMinutes yX0_searchMinutes, Cond.code yX0_searchMinutes cX0_searchMinutes 2 (some .int), Cond.fieldLink RX0 28 "SleepBorder$Border" "declared" "[I", Cond.methodLink RX0 58 yX0_addedSnores, Cond.instanceMethod yX0_addedSnores, Cond.selects RX0 yX0_addedSnores yX0_addedSnores, Cond.code yX0_addedSnores cX0_addedSnores 3 (some .int), Cond.fieldLink RX0 37 "SleepBorder$Border" "state" "[I"]
def wsX1_searchTime_r2 : List Cond := [Cond.fieldLink RX0 31 "SleepBorder$Border" "snore" "[I"]
def wsX1_searchTime : List Cond := .code yX1_searchTime cX1_searchTime 2 (some .int) :: ((wsX1_searchTime_r1 ++ wsX1_searchTime_r2) ++ wsX10 ++ wsX00 ++ (vx_atS RX1 212 "java/lang/IndexOutOfBoundsException" ["java/lang/RuntimeException", "java/lang/Exception"]).filter goodWord)
def wsX1_guards : List Cond := .code yX1_guards cX1_guards 1 (some .int) :: ([.fieldLink RX1 10 "SleepBorder" "now" "LSleepBorder$Border;", .fieldLink RX1 19 "SleepBorder$Border" "guardCount" "I"] ++ wsX10 ++ wsX00)
def wsX1_alertnessOf : List Cond := .code yX1_alertnessOf cX1_alertnessOf 2 (some .int) :: ([.fieldLink RX1 10 "SleepBorder" "now" "LSleepBorder$Border;", .fieldLink RX1 65 "SleepBorder$Border" "alertness" "[I", .methodLink RX1 62 yX1_requireGuard, .instanceMethod yX1_requireGuard, .selects RX1 yX1_requireGuard yX1_requireGuard, .initialized RX1, .code yX1_requireGuard cX1_requireGuard 2 none, .classLink RX1 208 "java/lang/IndexOutOfBoundsException", .initialized "java/lang/IndexOutOfBoundsException", .methodLink RX1 213 yX0_isGuard, .instanceMethod yX0_isGuard, .selects RX0 yX0_isGuard yX0_isGuard, .initialized RX0, .code yX0_isGuard cX0_isGuard 2 (some .boolean), .fieldLink RX0 46 "SleepBorder$Border" "guardCount" "I"] ++ wsX10 ++ wsX00 ++ (vx_atS RX1 212 "java/lang/IndexOutOfBoundsException" ["java/lang/RuntimeException", "java/lang/Exception"]).filter goodWord)
def wsX1_searches : List Cond := .code yX1_searches cX1_searches 2 (some .int) :: ([.fieldLink RX1 10 "SleepBorder" "now" "LSleepBorder$Border;", .fieldLink RX1 103 "SleepBorder$Border" "searched" "[I", .methodLink RX1 62 yX1_requireGuard, .instanceMethod yX1_requireGuard, .selects RX1 yX1_requireGuard yX1_requireGuard, .initialized RX1, .code yX1_requireGuard cX1_requireGuard 2 none, .classLink RX1 208 "java/lang/IndexOutOfBoundsException", .initialized "java/lang/IndexOutOfBoundsException", .methodLink RX1 213 yX0_isGuard, .instanceMethod yX0_isGuard, .selects RX0 yX0_isGuard yX0_isGuard, .initialized RX0, .code yX0_isGuard cX0_isGuard 2 (some .boolean), .fieldLink RX0 46 "SleepBorder$Border" "guardCount" "I"] ++ wsX10 ++ wsX00 ++ (vx_atS RX1 212 "java/lang/IndexOutOfBoundsException" ["java/lang/RuntimeException", "java/lang/Exception"]).filter goodWord)
def wsX1_minutesToGo : List Cond := .code yX1_minutesToGo cX1_minutesToGo 2 (some .int) :: ([.fieldLink RX1 10 "SleepBorder" "now" "LSleepBorder$Border;", .fieldLink RX1 106 "SleepBorder$Border" "searchLeft" "[I", .methodLink RX1 62 yX1_requireGuard, .instanceMethod yX1_requireGuard, .selects RX1 yX1_requireGuard yX1_requireGuard, .initialized RX1, .code yX1_requireGuard cX1_requireGuard 2 none, .classLink RX1 208 "java/lang/IndexOutOfBoundsException", .initialized "java/lang/IndexOutOfBoundsException", .methodLink RX1 213 yX0_isGuard, .instanceMethod yX0_isGuard, .selects RX0 yX0_isGuard yX0_isGuard, .initialized RX0, .code yX0_isGuard cX0_isGuard 2 (some .boolean), .fieldLink RX0 46 "SleepBorder$Border" "guardCount" "I"] ++ wsX10 ++ wsX00 ++ (vx_atS RX1 212 "java/lang/IndexOutOfBoundsException" ["java/lang/RuntimeException", "java/lang/Exception"]).filter goodWord)
def wsX1_wouldFind_r1 : List Cond := [Cond.fieldLink RX1 10 "SleepBorder" "now" "LSleepBorder$Border;", Cond.methodLink RX1 62 yX1_requireGuard, Cond.instanceMethod yX1_requireGuard, Cond.selects RX1 yX1_requireGuard yX1_requireGuard, Cond.initialized RX1, Cond.code yX1_requireGuard cX1_requireGuard 2 none, Cond.classLink RX1 208 "java/lang/IndexOutOfBoundsException", Cond.initialized "java/lang/IndexOutOfBoundsException", Cond.methodLink RX1 213 yX0_isGuard, Cond.instanceMethod yX0_isGuard, Cond.selects RX0 yX0_isGuard yX0_isGuard, Cond.initialized RX0, Cond.code yX0_isGuard cX0_isGuard 2 (some .boolean), Cond.fieldLink RX0 46 "SleepBorder$Border" "guardCount" "I", Cond.methodLink RX1 49 yX1_requireTraveller, Cond.instanceMethod yX1_requireTraveller, Cond.selects RX1 yX1_requireTraveller yX1_requireTraveller, Cond.code yX1_requireTraveller cX1_requireTraveller 2 none, Cond.methodLink RX1 204 yX0_isTraveller, Cond.instanceMethod yX0_isTraveller, Cond.selects RX0 yX0_isTraveller yX0_isTraveller, Cond.code yX0_isTraveller cX0_isTraveller 2 (some .boolean), Cond.fieldLink RX0 21 "SleepBorder$Border" "travellerCount" "I", Cond.methodLink RX1 109 yX0_finds]
def wsX1_wouldFind_r2 : List Cond := [Cond.instanceMethod yX0_finds, Cond.selects RX0 yX0_finds yX0_finds, Cond.code yX0_finds cX0_finds 4 (some .boolean), Cond.fieldLink RX0 49 "SleepBorder$Border" "alertness" "[I", Cond.methodLink RX0 62 yX0_hiddenDreams, Cond.instanceMethod yX0_hiddenDreams, Cond.selects RX0 yX0_hiddenDreams yX0_hiddenDreams, Cond.code yX0_hiddenDreams cX0_hiddenDreams 3 (some .int), Cond.fieldLink RX0 24 "SleepBorder$Border" "dreams" "[I", Cond.fieldLink RX0 28 "SleepBorder$Border" "declared" "[I"]
def wsX1_wouldFind : List Cond := .code yX1_wouldFind cX1_wouldFind 3 (some .boolean) :: ((wsX1_wouldFind_r1 ++ wsX1_wouldFind_r2) ++ wsX10 ++ wsX00 ++ (vx_atS RX1 212 "java/lang/IndexOutOfBoundsException" ["java/lang/RuntimeException", "java/lang/Exception"]).filter goodWord)
def wsX1_mostAlert : List Cond := .code yX1_mostAlert cX1_mostAlert 4 (some .int) :: ([.fieldLink RX1 10 "SleepBorder" "now" "LSleepBorder$Border;", .fieldLink RX1 19 "SleepBorder$Border" "guardCount" "I", .fieldLink RX1 65 "SleepBorder$Border" "alertness" "[I"] ++ wsX10 ++ wsX00)
def wsX1_meanAlertness : List Cond := .code yX1_meanAlertness cX1_meanAlertness 3 (some .double) :: ([.fieldLink RX1 10 "SleepBorder" "now" "LSleepBorder$Border;", .fieldLink RX1 19 "SleepBorder$Border" "guardCount" "I", .fieldLink RX1 65 "SleepBorder$Border" "alertness" "[I"] ++ wsX10 ++ wsX00)
def wsX2_init : List Cond := .code yX2_init cX2_init 1 none :: ([.methodLink RX2 1 objectInit, .instanceMethod objectInit, .code objectInit ⟨#[0xb1]⟩ 1 none, .classLink RX2 7 "[I", .fieldLink RX2 9 "SleepBorderLaw$Sim" "guards" "[[I", .fieldLink RX2 15 "SleepBorderLaw$Sim" "travellers" "[[I"] ++ wsX20)
def wsX2_with : List Cond := .code yX2_with cX2_with 4 (some (.array (.array .int))) :: ([.classLink RX2 7 "[I"])
def wsX2_noise : List Cond := .code yX2_noise cX2_noise 6 (some .int) :: ([.fieldLink RX2 15 "SleepBorderLaw$Sim" "travellers" "[[I"] ++ wsX20)
def wsX2_count : List Cond := .code yX2_count cX2_count 7 (some .int) :: ([.fieldLink RX2 15 "SleepBorderLaw$Sim" "travellers" "[[I"] ++ wsX20)
def wsX2_hidden : List Cond := .code yX2_hidden cX2_hidden 1 (some .int) :: ([])
def wsX2_next : List Cond := .code yX2_next cX2_next 2 (some .int) :: ([.fieldLink RX2 15 "SleepBorderLaw$Sim" "travellers" "[[I"] ++ wsX20)
def wsX2_finds : List Cond := .code yX2_finds cX2_finds 2 (some .boolean) :: ([])
def wsX2_pass : List Cond := .code yX2_pass cX2_pass 6 none :: ([.fieldLink RX2 9 "SleepBorderLaw$Sim" "guards" "[[I", .arrayClass .boolean, .fieldLink RX2 15 "SleepBorderLaw$Sim" "travellers" "[[I", .fieldLink RX2 18 "SleepBorderLaw$Sim" "expired" "I", .fieldLink RX2 33 "SleepBorderLaw$Sim" "paid" "I", .fieldLink RX2 40 "SleepBorderLaw$Sim" "minute" "I", .methodLink RX2 22 yX2_next, .instanceMethod yX2_next, .selects RX2 yX2_next yX2_next, .initialized RX2, .code yX2_next cX2_next 2 (some .int), .methodLink RX2 26 yX2_noise, .instanceMethod yX2_noise, .selects RX2 yX2_noise yX2_noise, .code yX2_noise cX2_noise 6 (some .int), .methodLink RX2 29 yX2_finds, .static yX2_finds, .code yX2_finds cX2_finds 2 (some .boolean), .methodLink RX2 36 yX2_hidden, .static yX2_hidden, .code yX2_hidden cX2_hidden 1 (some .int)] ++ wsX20)
def wsX2_behind_r1 : List Cond := [Cond.methodLink RX2 43 yX2_count, Cond.instanceMethod yX2_count, Cond.selects RX2 yX2_count yX2_count, Cond.initialized RX2, Cond.code yX2_count cX2_count 7 (some .int), Cond.fieldLink RX2 15 "SleepBorderLaw$Sim" "travellers" "[[I", Cond.methodLink RX2 47 yX2_pass, Cond.instanceMethod yX2_pass, Cond.selects RX2 yX2_pass yX2_pass, Cond.code yX2_pass cX2_pass 6 none, Cond.fieldLink RX2 9 "SleepBorderLaw$Sim" "guards" "[[I", Cond.arrayClass .boolean, Cond.fieldLink RX2 18 "SleepBorderLaw$Sim" "expired" "I", Cond.fieldLink RX2 33 "SleepBorderLaw$Sim" "paid" "I", Cond.fieldLink RX2 40 "SleepBorderLaw$Sim" "minute" "I", Cond.methodLink RX2 22 yX2_next, Cond.instanceMethod yX2_next, Cond.selects RX2 yX2_next yX2_next, Cond.code yX2_next cX2_next 2 (some .int), Cond.methodLink RX2 26 yX2_noise, Cond.instanceMethod yX2_noise, Cond.selects RX2 yX2_noise yX2_noise, Cond.code yX2_noise cX2_noise 6 (some .int), Cond.methodLink RX2 29 yX2_finds]
def wsX2_behind_r2 : List Cond := [Cond.static yX2_finds, Cond.code yX2_finds cX2_finds 2 (some .boolean), Cond.methodLink RX2 36 yX2_hidden, Cond.static yX2_hidden, Cond.code yX2_hidden cX2_hidden 1 (some .int)]
def wsX2_behind : List Cond := .code yX2_behind cX2_behind 4 (some .int) :: ((wsX2_behind_r1 ++ wsX2_behind_r2) ++ wsX20)
def wsX2_isSame_r1 : List Cond := [Cond.fieldLink RX2 40 "SleepBorderLaw$Sim" "minute" "I", Cond.fieldLink RX2 15 "SleepBorderLaw$Sim" "travellers" "[[I", Cond.fieldLink RX2 18 "SleepBorderLaw$Sim" "expired" "I", Cond.fieldLink RX2 33 "SleepBorderLaw$Sim" "paid" "I", Cond.fieldLink RX2 9 "SleepBorderLaw$Sim" "guards" "[[I", Cond.methodLink RX2 59 yX1_minute, Cond.instanceMethod yX1_minute, Cond.selects RX1 yX1_minute yX1_minute, Cond.initialized RX1, Cond.code yX1_minute cX1_minute 1 (some .int), Cond.fieldLink RX1 10 "SleepBorder" "now" "LSleepBorder$Border;", Cond.fieldLink RX1 75 "SleepBorder$Border" "clock" "I", Cond.methodLink RX2 63 yX1_travellers, Cond.instanceMethod yX1_travellers, Cond.selects RX1 yX1_travellers yX1_travellers, Cond.code yX1_travellers cX1_travellers 1 (some .int), Cond.fieldLink RX1 40 "SleepBorder$Border" "travellerCount" "I", Cond.methodLink RX2 65 yX1_waiting, Cond.instanceMethod yX1_waiting, Cond.selects RX1 yX1_waiting yX1_waiting, Cond.code yX1_waiting cX1_waiting 1 (some .int), Cond.methodLink RX1 68 yX0_countIn, Cond.instanceMethod yX0_countIn, Cond.selects RX0 yX0_countIn yX0_countIn]
def wsX2_isSame_r2 : List Cond := [Cond.initialized RX0, Cond.code yX0_countIn cX0_countIn 4 (some .int), Cond.fieldLink RX0 21 "SleepBorder$Border" "travellerCount" "I", Cond.fieldLink RX0 37 "SleepBorder$Border" "state" "[I", Cond.methodLink RX2 43 yX2_count, Cond.instanceMethod yX2_count, Cond.selects RX2 yX2_count yX2_count, Cond.initialized RX2, Cond.code yX2_count cX2_count 7 (some .int), Cond.methodLink RX2 68 yX1_asleep, Cond.instanceMethod yX1_asleep, Cond.selects RX1 yX1_asleep yX1_asleep, Cond.code yX1_asleep cX1_asleep 1 (some .int), Cond.methodLink RX2 71 yX1_sentBack, Cond.instanceMethod yX1_sentBack, Cond.selects RX1 yX1_sentBack yX1_sentBack, Cond.code yX1_sentBack cX1_sentBack 1 (some .int), Cond.methodLink RX2 74 yX1_expired, Cond.instanceMethod yX1_expired, Cond.selects RX1 yX1_expired yX1_expired, Cond.code yX1_expired cX1_expired 1 (some .int), Cond.fieldLink RX1 78 "SleepBorder$Border" "expiredCount" "I", Cond.methodLink RX2 76 yX1_paid, Cond.instanceMethod yX1_paid]
def wsX2_isSame_r3 : List Cond := [Cond.selects RX1 yX1_paid yX1_paid, Cond.code yX1_paid cX1_paid 1 (some .int), Cond.fieldLink RX1 81 "SleepBorder$Border" "till" "I", Cond.methodLink RX2 78 yX1_noise, Cond.instanceMethod yX1_noise, Cond.selects RX1 yX1_noise yX1_noise, Cond.code yX1_noise cX1_noise 1 (some .int), Cond.methodLink RX1 84 yX0_addedSnores, Cond.instanceMethod yX0_addedSnores, Cond.selects RX0 yX0_addedSnores yX0_addedSnores, Cond.code yX0_addedSnores cX0_addedSnores 3 (some .int), Cond.fieldLink RX0 31 "SleepBorder$Border" "snore" "[I", Cond.methodLink RX2 26 yX2_noise, Cond.instanceMethod yX2_noise, Cond.selects RX2 yX2_noise yX2_noise, Cond.code yX2_noise cX2_noise 6 (some .int), Cond.methodLink RX2 79 yX1_nextInLine, Cond.instanceMethod yX1_nextInLine, Cond.selects RX1 yX1_nextInLine yX1_nextInLine, Cond.code yX1_nextInLine cX1_nextInLine 1 (some .int), Cond.methodLink RX1 88 yX0_firstWaiting, Cond.instanceMethod yX0_firstWaiting, Cond.selects RX0 yX0_firstWaiting yX0_firstWaiting, Cond.code yX0_firstWaiting cX0_firstWaiting 2 (some .int)]
def wsX2_isSame_r4 : List Cond := [Cond.methodLink RX2 22 yX2_next, Cond.instanceMethod yX2_next, Cond.selects RX2 yX2_next yX2_next, Cond.code yX2_next cX2_next 2 (some .int), Cond.methodLink RX2 82 yX1_guards, Cond.instanceMethod yX1_guards, Cond.selects RX1 yX1_guards yX1_guards, Cond.code yX1_guards cX1_guards 1 (some .int), Cond.fieldLink RX1 19 "SleepBorder$Border" "guardCount" "I", Cond.methodLink RX2 84 yX1_stateOf, Cond.instanceMethod yX1_stateOf, Cond.selects RX1 yX1_stateOf yX1_stateOf, Cond.code yX1_stateOf cX1_stateOf 2 (some .int), Cond.fieldLink RX1 91 "SleepBorder$Border" "state" "[I", Cond.methodLink RX1 49 yX1_requireTraveller, Cond.instanceMethod yX1_requireTraveller, Cond.selects RX1 yX1_requireTraveller yX1_requireTraveller, Cond.code yX1_requireTraveller cX1_requireTraveller 2 none, Cond.classLink RX1 208 "java/lang/IndexOutOfBoundsException", Cond.initialized "java/lang/IndexOutOfBoundsException", Cond.methodLink RX1 204 yX0_isTraveller, Cond.instanceMethod yX0_isTraveller, Cond.selects RX0 yX0_isTraveller yX0_isTraveller, Cond.code yX0_isTraveller cX0_isTraveller 2 (some .boolean)]
def wsX2_isSame_r5 : List Cond := [Cond.methodLink RX2 87 yX1_hiddenOf, Cond.instanceMethod yX1_hiddenOf, Cond.selects RX1 yX1_hiddenOf yX1_hiddenOf, Cond.code yX1_hiddenOf cX1_hiddenOf 2 (some .int), Cond.methodLink RX1 94 yX0_hiddenDreams, Cond.instanceMethod yX0_hiddenDreams, Cond.selects RX0 yX0_hiddenDreams yX0_hiddenDreams, Cond.code yX0_hiddenDreams cX0_hiddenDreams 3 (some .int), Cond.fieldLink RX0 24 "SleepBorder$Border" "dreams" "[I", Cond.fieldLink RX0 28 "SleepBorder$Border" "declared" "[I", Cond.methodLink RX2 36 yX2_hidden, Cond.static yX2_hidden, Cond.code yX2_hidden cX2_hidden 1 (some .int), Cond.methodLink RX2 90 yX1_lullabyOf, Cond.instanceMethod yX1_lullabyOf, Cond.selects RX1 yX1_lullabyOf yX1_lullabyOf, Cond.code yX1_lullabyOf cX1_lullabyOf 2 (some .int), Cond.fieldLink RX1 59 "SleepBorder$Border" "lullaby" "[I", Cond.methodLink RX2 93 yX1_placeInLine, Cond.instanceMethod yX1_placeInLine, Cond.selects RX1 yX1_placeInLine yX1_placeInLine, Cond.code yX1_placeInLine cX1_placeInLine 2 (some .int), Cond.methodLink RX1 97 yX0_waitingAhead, Cond.instanceMethod yX0_waitingAhead]
def wsX2_isSame_r6 : List Cond := [Cond.selects RX0 yX0_waitingAhead yX0_waitingAhead, Cond.code yX0_waitingAhead cX0_waitingAhead 4 (some .int), Cond.methodLink RX2 96 yX1_searchTime, Cond.instanceMethod yX1_searchTime, Cond.selects RX1 yX1_searchTime yX1_searchTime, Cond.code yX1_searchTime cX1_searchTime 2 (some .int), Cond.methodLink RX1 100 yX0_searchMinutes, Cond.instanceMethod yX0_searchMinutes, Cond.selects RX0 yX0_searchMinutes yX0_searchMinutes, Cond.code yX0_searchMinutes cX0_searchMinutes 2 (some .int), Cond.methodLink RX0 58 yX0_addedSnores, Cond.methodLink RX2 99 yX1_alertnessOf, Cond.instanceMethod yX1_alertnessOf, Cond.selects RX1 yX1_alertnessOf yX1_alertnessOf, Cond.code yX1_alertnessOf cX1_alertnessOf 2 (some .int), Cond.fieldLink RX1 65 "SleepBorder$Border" "alertness" "[I", Cond.methodLink RX1 62 yX1_requireGuard, Cond.instanceMethod yX1_requireGuard, Cond.selects RX1 yX1_requireGuard yX1_requireGuard, Cond.code yX1_requireGuard cX1_requireGuard 2 none, Cond.methodLink RX1 213 yX0_isGuard, Cond.instanceMethod yX0_isGuard, Cond.selects RX0 yX0_isGuard yX0_isGuard, Cond.code yX0_isGuard cX0_isGuard 2 (some .boolean)]
def wsX2_isSame_r7 : List Cond := [Cond.fieldLink RX0 46 "SleepBorder$Border" "guardCount" "I", Cond.methodLink RX2 102 yX1_searches, Cond.instanceMethod yX1_searches, Cond.selects RX1 yX1_searches yX1_searches, Cond.code yX1_searches cX1_searches 2 (some .int), Cond.fieldLink RX1 103 "SleepBorder$Border" "searched" "[I", Cond.methodLink RX2 105 yX1_minutesToGo, Cond.instanceMethod yX1_minutesToGo, Cond.selects RX1 yX1_minutesToGo yX1_minutesToGo, Cond.code yX1_minutesToGo cX1_minutesToGo 2 (some .int), Cond.fieldLink RX1 106 "SleepBorder$Border" "searchLeft" "[I", Cond.methodLink RX2 108 yX1_wouldFind, Cond.instanceMethod yX1_wouldFind, Cond.selects RX1 yX1_wouldFind yX1_wouldFind, Cond.code yX1_wouldFind cX1_wouldFind 3 (some .boolean), Cond.methodLink RX1 109 yX0_finds, Cond.instanceMethod yX0_finds, Cond.selects RX0 yX0_finds yX0_finds, Cond.code yX0_finds cX0_finds 4 (some .boolean), Cond.fieldLink RX0 49 "SleepBorder$Border" "alertness" "[I", Cond.methodLink RX0 62 yX0_hiddenDreams, Cond.methodLink RX2 29 yX2_finds, Cond.static yX2_finds, Cond.code yX2_finds cX2_finds 2 (some .boolean)]
def wsX2_isSame_r8 : List Cond := [Cond.methodLink RX2 112 yX1_mostAlert, Cond.instanceMethod yX1_mostAlert, Cond.selects RX1 yX1_mostAlert yX1_mostAlert, Cond.code yX1_mostAlert cX1_mostAlert 4 (some .int), Cond.methodLink RX2 115 yX1_meanAlertness, Cond.instanceMethod yX1_meanAlertness, Cond.selects RX1 yX1_meanAlertness yX1_meanAlertness, Cond.code yX1_meanAlertness cX1_meanAlertness 3 (some .double)]
def wsX2_isSame : List Cond := .code yX2_isSame cX2_isSame 8 (some .boolean) :: ((wsX2_isSame_r1 ++ (wsX2_isSame_r2 ++ (wsX2_isSame_r3 ++ (wsX2_isSame_r4 ++ (wsX2_isSame_r5 ++ (wsX2_isSame_r6 ++ (wsX2_isSame_r7 ++ wsX2_isSame_r8))))))) ++ wsX20 ++ wsX10 ++ wsX00 ++ (vx_atS RX1 212 "java/lang/IndexOutOfBoundsException" ["java/lang/RuntimeException", "java/lang/Exception"]).filter goodWord)
def wsJ9_max_7cf53 : List Cond := .code yJ9_max_7cf53 cJ9_max_7cf53 2 (some .int) :: ([])
def wsJ9_min_7cf53 : List Cond := .code yJ9_min_7cf53 cJ9_min_7cf53 2 (some .int) :: ([])
def wsL_below : List Cond := .code yL_below cL_below 2 (some .int) :: ([.constant RL 7 (2147483647)])
def wsL_cell : List Cond := .code yL_cell cL_cell 2 (some .int) :: ([.constant RL 8 (790386105)])
def wsL_act_r1 : List Cond := [Cond.fieldLink RL 9 "SleepBorderLaw$Sim" "travellers" "[[I", Cond.fieldLink RL 15 "SleepBorderLaw$Sim" "guards" "[[I", Cond.arrayClass .int, Cond.methodLink RL 18 yL_below, Cond.static yL_below, Cond.initialized RL, Cond.code yL_below cL_below 2 (some .int), Cond.constant RL 7 (2147483647), Cond.methodLink RL 24 yX2_with, Cond.static yX2_with, Cond.initialized RX2, Cond.code yX2_with cX2_with 4 (some (.array (.array .int))), Cond.classLink RX2 7 "[I", Cond.methodLink RL 28 yX1_addGuard, Cond.instanceMethod yX1_addGuard, Cond.selects RX1 yX1_addGuard yX1_addGuard, Cond.initialized RX1, Cond.code yX1_addGuard cX1_addGuard 1 (some .int), Cond.classLink RX1 23 "java/lang/IllegalStateException", Cond.initialized "java/lang/IllegalStateException", Cond.fieldLink RX1 10 "SleepBorder" "now" "LSleepBorder$Border;", Cond.fieldLink RX1 19 "SleepBorder$Border" "guardCount" "I", Cond.methodLink RX1 30 yX0_admitGuard, Cond.instanceMethod yX0_admitGuard]
def wsL_act_r2 : List Cond := [Cond.selects RX0 yX0_admitGuard yX0_admitGuard, Cond.initialized RX0, Cond.code yX0_admitGuard cX0_admitGuard 1 none, Cond.fieldLink RX0 46 "SleepBorder$Border" "guardCount" "I", Cond.fieldLink RX0 49 "SleepBorder$Border" "alertness" "[I", Cond.fieldLink RX0 52 "SleepBorder$Border" "searched" "[I", Cond.fieldLink RX0 55 "SleepBorder$Border" "searchLeft" "[I", Cond.methodLink RL 34 yX1_arrive, Cond.instanceMethod yX1_arrive, Cond.selects RX1 yX1_arrive yX1_arrive, Cond.code yX1_arrive cX1_arrive 5 (some .int), Cond.fieldLink RX1 40 "SleepBorder$Border" "travellerCount" "I", Cond.methodLink RX1 33 yX1_requireDigit, Cond.static yX1_requireDigit, Cond.code yX1_requireDigit cX1_requireDigit 1 none, Cond.classLink RX1 218 "java/lang/IllegalArgumentException", Cond.initialized "java/lang/IllegalArgumentException", Cond.methodLink RX1 37 yX1_requireMinutes, Cond.static yX1_requireMinutes, Cond.code yX1_requireMinutes cX1_requireMinutes 1 none, Cond.methodLink RX1 45 yX0_admitTraveller, Cond.instanceMethod yX0_admitTraveller, Cond.selects RX0 yX0_admitTraveller yX0_admitTraveller, Cond.code yX0_admitTraveller cX0_admitTraveller 5 none]
def wsL_act_r3 : List Cond := [Cond.fieldLink RX0 21 "SleepBorder$Border" "travellerCount" "I", Cond.fieldLink RX0 24 "SleepBorder$Border" "dreams" "[I", Cond.fieldLink RX0 28 "SleepBorder$Border" "declared" "[I", Cond.fieldLink RX0 31 "SleepBorder$Border" "snore" "[I", Cond.fieldLink RX0 34 "SleepBorder$Border" "lullaby" "[I", Cond.fieldLink RX0 37 "SleepBorder$Border" "state" "[I", Cond.methodLink RL 38 yX1_declare, Cond.instanceMethod yX1_declare, Cond.selects RX1 yX1_declare yX1_declare, Cond.code yX1_declare cX1_declare 4 (some .int), Cond.fieldLink RX1 55 "SleepBorder$Border" "declared" "[I", Cond.methodLink RX1 49 yX1_requireTraveller, Cond.instanceMethod yX1_requireTraveller, Cond.selects RX1 yX1_requireTraveller yX1_requireTraveller, Cond.code yX1_requireTraveller cX1_requireTraveller 2 none, Cond.classLink RX1 208 "java/lang/IndexOutOfBoundsException", Cond.initialized "java/lang/IndexOutOfBoundsException", Cond.methodLink RX1 204 yX0_isTraveller, Cond.instanceMethod yX0_isTraveller, Cond.selects RX0 yX0_isTraveller yX0_isTraveller, Cond.code yX0_isTraveller cX0_isTraveller 2 (some .boolean), Cond.methodLink RX1 52 yX1_requireWaiting, Cond.instanceMethod yX1_requireWaiting, Cond.selects RX1 yX1_requireWaiting yX1_requireWaiting]
def wsL_act_r4 : List Cond := [Cond.code yX1_requireWaiting cX1_requireWaiting 2 none, Cond.fieldLink RX1 91 "SleepBorder$Border" "state" "[I", Cond.methodLink RL 41 yX1_sing, Cond.instanceMethod yX1_sing, Cond.selects RX1 yX1_sing yX1_sing, Cond.code yX1_sing cX1_sing 4 (some .int), Cond.fieldLink RX1 59 "SleepBorder$Border" "lullaby" "[I", Cond.methodLink RL 44 yX1_wake, Cond.instanceMethod yX1_wake, Cond.selects RX1 yX1_wake yX1_wake, Cond.code yX1_wake cX1_wake 3 (some .int), Cond.fieldLink RX1 65 "SleepBorder$Border" "alertness" "[I", Cond.methodLink RX1 62 yX1_requireGuard, Cond.instanceMethod yX1_requireGuard, Cond.selects RX1 yX1_requireGuard yX1_requireGuard, Cond.code yX1_requireGuard cX1_requireGuard 2 none, Cond.methodLink RX1 213 yX0_isGuard, Cond.instanceMethod yX0_isGuard, Cond.selects RX0 yX0_isGuard yX0_isGuard, Cond.code yX0_isGuard cX0_isGuard 2 (some .boolean), Cond.methodLink RL 48 yX1_pass, Cond.instanceMethod yX1_pass, Cond.selects RX1 yX1_pass yX1_pass, Cond.code yX1_pass cX1_pass 4 (some .int)]
def wsL_act_r5 : List Cond := [Cond.methodLink RX1 68 yX0_countIn, Cond.instanceMethod yX0_countIn, Cond.selects RX0 yX0_countIn yX0_countIn, Cond.code yX0_countIn cX0_countIn 4 (some .int), Cond.methodLink RX1 72 yX0_goOneMinute, Cond.instanceMethod yX0_goOneMinute, Cond.selects RX0 yX0_goOneMinute yX0_goOneMinute, Cond.code yX0_goOneMinute cX0_goOneMinute 3 none, Cond.fieldLink RX0 9 "SleepBorder$Border" "clock" "I", Cond.methodLink RX0 73 yX0_advanceTransits, Cond.instanceMethod yX0_advanceTransits, Cond.selects RX0 yX0_advanceTransits yX0_advanceTransits, Cond.code yX0_advanceTransits cX0_advanceTransits 2 none, Cond.fieldLink RX0 40 "SleepBorder$Border" "transitLeft" "[I", Cond.fieldLink RX0 43 "SleepBorder$Border" "asleepSince" "[I", Cond.methodLink RX0 76 yX0_shortenLullabies, Cond.instanceMethod yX0_shortenLullabies, Cond.selects RX0 yX0_shortenLullabies yX0_shortenLullabies, Cond.code yX0_shortenLullabies cX0_shortenLullabies 2 none, Cond.fieldLink RX0 15 "SleepBorder$Border" "expiredCount" "I", Cond.methodLink RX0 79 yX0_isTraveller, Cond.methodLink RX0 83 yX0_searchOn, Cond.instanceMethod yX0_searchOn, Cond.selects RX0 yX0_searchOn yX0_searchOn]
def wsL_act_r6 : List Cond := [Cond.code yX0_searchOn cX0_searchOn 3 none, Cond.fieldLink RX0 18 "SleepBorder$Border" "till" "I", Cond.methodLink RX0 107 Lib.Math.max.name, Cond.static Lib.Math.max.name, Cond.initialized "java/lang/Math", Cond.code Lib.Math.max.name Lib.Math.max.code 2 (some .int), Cond.methodLink RX0 103 yX0_finds, Cond.instanceMethod yX0_finds, Cond.selects RX0 yX0_finds yX0_finds, Cond.code yX0_finds cX0_finds 4 (some .boolean), Cond.methodLink RX0 62 yX0_hiddenDreams, Cond.instanceMethod yX0_hiddenDreams, Cond.selects RX0 yX0_hiddenDreams yX0_hiddenDreams, Cond.code yX0_hiddenDreams cX0_hiddenDreams 3 (some .int), Cond.methodLink RX0 87 yX0_beginSearchOrRest, Cond.instanceMethod yX0_beginSearchOrRest, Cond.selects RX0 yX0_beginSearchOrRest yX0_beginSearchOrRest, Cond.code yX0_beginSearchOrRest cX0_beginSearchOrRest 3 none, Cond.methodLink RX0 97 Lib.Math.min.name, Cond.static Lib.Math.min.name, Cond.code Lib.Math.min.name Lib.Math.min.code 2 (some .int), Cond.methodLink RX0 91 yX0_firstWaiting, Cond.instanceMethod yX0_firstWaiting, Cond.selects RX0 yX0_firstWaiting yX0_firstWaiting]
def wsL_act_r7 : List Cond := [Cond.code yX0_firstWaiting cX0_firstWaiting 2 (some .int), Cond.methodLink RX0 94 yX0_searchMinutes, Cond.instanceMethod yX0_searchMinutes, Cond.selects RX0 yX0_searchMinutes yX0_searchMinutes, Cond.code yX0_searchMinutes cX0_searchMinutes 2 (some .int), Cond.methodLink RX0 58 yX0_addedSnores, Cond.instanceMethod yX0_addedSnores, Cond.selects RX0 yX0_addedSnores yX0_addedSnores, Cond.code yX0_addedSnores cX0_addedSnores 3 (some .int), Cond.methodLink RL 51 yX2_behind, Cond.instanceMethod yX2_behind, Cond.selects RX2 yX2_behind yX2_behind, Cond.code yX2_behind cX2_behind 4 (some .int), Cond.methodLink RX2 43 yX2_count, Cond.instanceMethod yX2_count, Cond.selects RX2 yX2_count yX2_count, Cond.code yX2_count cX2_count 7 (some .int), Cond.fieldLink RX2 15 "SleepBorderLaw$Sim" "travellers" "[[I", Cond.methodLink RX2 47 yX2_pass, Cond.instanceMethod yX2_pass, Cond.selects RX2 yX2_pass yX2_pass, Cond.code yX2_pass cX2_pass 6 none, Cond.fieldLink RX2 9 "SleepBorderLaw$Sim" "guards" "[[I", Cond.arrayClass .boolean]
def wsL_act_r8 : List Cond := [Cond.fieldLink RX2 18 "SleepBorderLaw$Sim" "expired" "I", Cond.fieldLink RX2 33 "SleepBorderLaw$Sim" "paid" "I", Cond.fieldLink RX2 40 "SleepBorderLaw$Sim" "minute" "I", Cond.methodLink RX2 22 yX2_next, Cond.instanceMethod yX2_next, Cond.selects RX2 yX2_next yX2_next, Cond.code yX2_next cX2_next 2 (some .int), Cond.methodLink RX2 26 yX2_noise, Cond.instanceMethod yX2_noise, Cond.selects RX2 yX2_noise yX2_noise, Cond.code yX2_noise cX2_noise 6 (some .int), Cond.methodLink RX2 29 yX2_finds, Cond.static yX2_finds, Cond.code yX2_finds cX2_finds 2 (some .boolean), Cond.methodLink RX2 36 yX2_hidden, Cond.static yX2_hidden, Cond.code yX2_hidden cX2_hidden 1 (some .int)]
def wsL_act : List Cond := .code yL_act cL_act 13 (some .boolean) :: ((wsL_act_r1 ++ (wsL_act_r2 ++ (wsL_act_r3 ++ (wsL_act_r4 ++ (wsL_act_r5 ++ (wsL_act_r6 ++ (wsL_act_r7 ++ wsL_act_r8))))))) ++ wsX20 ++ wsX10 ++ wsX00 ++ (vx_atS RX1 27 "java/lang/IllegalStateException" ["java/lang/RuntimeException", "java/lang/Exception"]).filter goodWord ++ (vx_atS RX1 222 "java/lang/IllegalArgumentException" ["java/lang/RuntimeException", "java/lang/Exception"]).filter goodWord ++ (vx_atS RX1 212 "java/lang/IndexOutOfBoundsException" ["java/lang/RuntimeException", "java/lang/Exception"]).filter goodWord)
def wsL_build_r1 : List Cond := [Cond.classLink RL 10 RX2, Cond.instantiable RX2 5, Cond.initialized RX2, Cond.fieldLink RL 15 "SleepBorderLaw$Sim" "guards" "[[I", Cond.arrayClass .int, Cond.instanceMethod yX2_init, Cond.code yX2_init cX2_init 1 none, Cond.methodLink RX2 1 objectInit, Cond.instanceMethod objectInit, Cond.code objectInit ⟨#[0xb1]⟩ 1 none, Cond.classLink RX2 7 "[I", Cond.fieldLink RX2 9 "SleepBorderLaw$Sim" "guards" "[[I", Cond.fieldLink RX2 15 "SleepBorderLaw$Sim" "travellers" "[[I", Cond.methodLink RL 55 yL_cell, Cond.static yL_cell, Cond.initialized RL, Cond.code yL_cell cL_cell 2 (some .int), Cond.constant RL 8 (790386105), Cond.methodLink RL 18 yL_below, Cond.static yL_below, Cond.code yL_below cL_below 2 (some .int), Cond.constant RL 7 (2147483647), Cond.methodLink RL 24 yX2_with, Cond.static yX2_with]
def wsL_build_r2 : List Cond := [Cond.code yX2_with cX2_with 4 (some (.array (.array .int))), Cond.methodLink RL 28 yX1_addGuard, Cond.instanceMethod yX1_addGuard, Cond.selects RX1 yX1_addGuard yX1_addGuard, Cond.initialized RX1, Cond.code yX1_addGuard cX1_addGuard 1 (some .int), Cond.classLink RX1 23 "java/lang/IllegalStateException", Cond.initialized "java/lang/IllegalStateException", Cond.fieldLink RX1 10 "SleepBorder" "now" "LSleepBorder$Border;", Cond.fieldLink RX1 19 "SleepBorder$Border" "guardCount" "I", Cond.methodLink RX1 30 yX0_admitGuard, Cond.instanceMethod yX0_admitGuard, Cond.selects RX0 yX0_admitGuard yX0_admitGuard, Cond.initialized RX0, Cond.code yX0_admitGuard cX0_admitGuard 1 none, Cond.fieldLink RX0 46 "SleepBorder$Border" "guardCount" "I", Cond.fieldLink RX0 49 "SleepBorder$Border" "alertness" "[I", Cond.fieldLink RX0 52 "SleepBorder$Border" "searched" "[I", Cond.fieldLink RX0 55 "SleepBorder$Border" "searchLeft" "[I", Cond.methodLink RL 59 yL_act, Cond.static yL_act, Cond.code yL_act cL_act 13 (some .boolean), Cond.fieldLink RL 9 "SleepBorderLaw$Sim" "travellers" "[[I", Cond.methodLink RL 34 yX1_arrive]
def wsL_build_r3 : List Cond := [Cond.instanceMethod yX1_arrive, Cond.selects RX1 yX1_arrive yX1_arrive, Cond.code yX1_arrive cX1_arrive 5 (some .int), Cond.fieldLink RX1 40 "SleepBorder$Border" "travellerCount" "I", Cond.methodLink RX1 33 yX1_requireDigit, Cond.static yX1_requireDigit, Cond.code yX1_requireDigit cX1_requireDigit 1 none, Cond.classLink RX1 218 "java/lang/IllegalArgumentException", Cond.initialized "java/lang/IllegalArgumentException", Cond.methodLink RX1 37 yX1_requireMinutes, Cond.static yX1_requireMinutes, Cond.code yX1_requireMinutes cX1_requireMinutes 1 none, Cond.methodLink RX1 45 yX0_admitTraveller, Cond.instanceMethod yX0_admitTraveller, Cond.selects RX0 yX0_admitTraveller yX0_admitTraveller, Cond.code yX0_admitTraveller cX0_admitTraveller 5 none, Cond.fieldLink RX0 21 "SleepBorder$Border" "travellerCount" "I", Cond.fieldLink RX0 24 "SleepBorder$Border" "dreams" "[I", Cond.fieldLink RX0 28 "SleepBorder$Border" "declared" "[I", Cond.fieldLink RX0 31 "SleepBorder$Border" "snore" "[I", Cond.fieldLink RX0 34 "SleepBorder$Border" "lullaby" "[I", Cond.fieldLink RX0 37 "SleepBorder$Border" "state" "[I", Cond.methodLink RL 38 yX1_declare, Cond.instanceMethod yX1_declare]
def wsL_build_r4 : List Cond := [Cond.selects RX1 yX1_declare yX1_declare, Cond.code yX1_declare cX1_declare 4 (some .int), Cond.fieldLink RX1 55 "SleepBorder$Border" "declared" "[I", Cond.methodLink RX1 49 yX1_requireTraveller, Cond.instanceMethod yX1_requireTraveller, Cond.selects RX1 yX1_requireTraveller yX1_requireTraveller, Cond.code yX1_requireTraveller cX1_requireTraveller 2 none, Cond.classLink RX1 208 "java/lang/IndexOutOfBoundsException", Cond.initialized "java/lang/IndexOutOfBoundsException", Cond.methodLink RX1 204 yX0_isTraveller, Cond.instanceMethod yX0_isTraveller, Cond.selects RX0 yX0_isTraveller yX0_isTraveller, Cond.code yX0_isTraveller cX0_isTraveller 2 (some .boolean), Cond.methodLink RX1 52 yX1_requireWaiting, Cond.instanceMethod yX1_requireWaiting, Cond.selects RX1 yX1_requireWaiting yX1_requireWaiting, Cond.code yX1_requireWaiting cX1_requireWaiting 2 none, Cond.fieldLink RX1 91 "SleepBorder$Border" "state" "[I", Cond.methodLink RL 41 yX1_sing, Cond.instanceMethod yX1_sing, Cond.selects RX1 yX1_sing yX1_sing, Cond.code yX1_sing cX1_sing 4 (some .int), Cond.fieldLink RX1 59 "SleepBorder$Border" "lullaby" "[I", Cond.methodLink RL 44 yX1_wake]
def wsL_build_r5 : List Cond := [Cond.instanceMethod yX1_wake, Cond.selects RX1 yX1_wake yX1_wake, Cond.code yX1_wake cX1_wake 3 (some .int), Cond.fieldLink RX1 65 "SleepBorder$Border" "alertness" "[I", Cond.methodLink RX1 62 yX1_requireGuard, Cond.instanceMethod yX1_requireGuard, Cond.selects RX1 yX1_requireGuard yX1_requireGuard, Cond.code yX1_requireGuard cX1_requireGuard 2 none, Cond.methodLink RX1 213 yX0_isGuard, Cond.instanceMethod yX0_isGuard, Cond.selects RX0 yX0_isGuard yX0_isGuard, Cond.code yX0_isGuard cX0_isGuard 2 (some .boolean), Cond.methodLink RL 48 yX1_pass, Cond.instanceMethod yX1_pass, Cond.selects RX1 yX1_pass yX1_pass, Cond.code yX1_pass cX1_pass 4 (some .int), Cond.methodLink RX1 68 yX0_countIn, Cond.instanceMethod yX0_countIn, Cond.selects RX0 yX0_countIn yX0_countIn, Cond.code yX0_countIn cX0_countIn 4 (some .int), Cond.methodLink RX1 72 yX0_goOneMinute, Cond.instanceMethod yX0_goOneMinute, Cond.selects RX0 yX0_goOneMinute yX0_goOneMinute, Cond.code yX0_goOneMinute cX0_goOneMinute 3 none]
def wsL_build_r6 : List Cond := [Cond.fieldLink RX0 9 "SleepBorder$Border" "clock" "I", Cond.methodLink RX0 73 yX0_advanceTransits, Cond.instanceMethod yX0_advanceTransits, Cond.selects RX0 yX0_advanceTransits yX0_advanceTransits, Cond.code yX0_advanceTransits cX0_advanceTransits 2 none, Cond.fieldLink RX0 40 "SleepBorder$Border" "transitLeft" "[I", Cond.fieldLink RX0 43 "SleepBorder$Border" "asleepSince" "[I", Cond.methodLink RX0 76 yX0_shortenLullabies, Cond.instanceMethod yX0_shortenLullabies, Cond.selects RX0 yX0_shortenLullabies yX0_shortenLullabies, Cond.code yX0_shortenLullabies cX0_shortenLullabies 2 none, Cond.fieldLink RX0 15 "SleepBorder$Border" "expiredCount" "I", Cond.methodLink RX0 79 yX0_isTraveller, Cond.methodLink RX0 83 yX0_searchOn, Cond.instanceMethod yX0_searchOn, Cond.selects RX0 yX0_searchOn yX0_searchOn, Cond.code yX0_searchOn cX0_searchOn 3 none, Cond.fieldLink RX0 18 "SleepBorder$Border" "till" "I", Cond.methodLink RX0 107 Lib.Math.max.name, Cond.static Lib.Math.max.name, Cond.initialized "java/lang/Math", Cond.code Lib.Math.max.name Lib.Math.max.code 2 (some .int), Cond.methodLink RX0 103 yX0_finds, Cond.instanceMethod yX0_finds]
def wsL_build_r7 : List Cond := [Cond.selects RX0 yX0_finds yX0_finds, Cond.code yX0_finds cX0_finds 4 (some .boolean), Cond.methodLink RX0 62 yX0_hiddenDreams, Cond.instanceMethod yX0_hiddenDreams, Cond.selects RX0 yX0_hiddenDreams yX0_hiddenDreams, Cond.code yX0_hiddenDreams cX0_hiddenDreams 3 (some .int), Cond.methodLink RX0 87 yX0_beginSearchOrRest, Cond.instanceMethod yX0_beginSearchOrRest, Cond.selects RX0 yX0_beginSearchOrRest yX0_beginSearchOrRest, Cond.code yX0_beginSearchOrRest cX0_beginSearchOrRest 3 none, Cond.methodLink RX0 97 Lib.Math.min.name, Cond.static Lib.Math.min.name, Cond.code Lib.Math.min.name Lib.Math.min.code 2 (some .int), Cond.methodLink RX0 91 yX0_firstWaiting, Cond.instanceMethod yX0_firstWaiting, Cond.selects RX0 yX0_firstWaiting yX0_firstWaiting, Cond.code yX0_firstWaiting cX0_firstWaiting 2 (some .int), Cond.methodLink RX0 94 yX0_searchMinutes, Cond.instanceMethod yX0_searchMinutes, Cond.selects RX0 yX0_searchMinutes yX0_searchMinutes, Cond.code yX0_searchMinutes cX0_searchMinutes 2 (some .int), Cond.methodLink RX0 58 yX0_addedSnores, Cond.instanceMethod yX0_addedSnores, Cond.selects RX0 yX0_addedSnores yX0_addedSnores]
def wsL_build_r8 : List Cond := [Cond.code yX0_addedSnores cX0_addedSnores 3 (some .int), Cond.methodLink RL 51 yX2_behind, Cond.instanceMethod yX2_behind, Cond.selects RX2 yX2_behind yX2_behind, Cond.code yX2_behind cX2_behind 4 (some .int), Cond.methodLink RX2 43 yX2_count, Cond.instanceMethod yX2_count, Cond.selects RX2 yX2_count yX2_count, Cond.code yX2_count cX2_count 7 (some .int), Cond.methodLink RX2 47 yX2_pass, Cond.instanceMethod yX2_pass, Cond.selects RX2 yX2_pass yX2_pass, Cond.code yX2_pass cX2_pass 6 none, Cond.arrayClass .boolean, Cond.fieldLink RX2 18 "SleepBorderLaw$Sim" "expired" "I", Cond.fieldLink RX2 33 "SleepBorderLaw$Sim" "paid" "I", Cond.fieldLink RX2 40 "SleepBorderLaw$Sim" "minute" "I", Cond.methodLink RX2 22 yX2_next, Cond.instanceMethod yX2_next, Cond.selects RX2 yX2_next yX2_next, Cond.code yX2_next cX2_next 2 (some .int), Cond.methodLink RX2 26 yX2_noise, Cond.instanceMethod yX2_noise, Cond.selects RX2 yX2_noise yX2_noise]
def wsL_build_r9 : List Cond := [Cond.code yX2_noise cX2_noise 6 (some .int), Cond.methodLink RX2 29 yX2_finds, Cond.static yX2_finds, Cond.code yX2_finds cX2_finds 2 (some .boolean), Cond.methodLink RX2 36 yX2_hidden, Cond.static yX2_hidden, Cond.code yX2_hidden cX2_hidden 1 (some .int)]
def wsL_build : List Cond := .code yL_build cL_build 6 (some (.object "SleepBorderLaw$Sim")) :: ((wsL_build_r1 ++ (wsL_build_r2 ++ (wsL_build_r3 ++ (wsL_build_r4 ++ (wsL_build_r5 ++ (wsL_build_r6 ++ (wsL_build_r7 ++ (wsL_build_r8 ++ wsL_build_r9)))))))) ++ wsX20 ++ wsX10 ++ wsX00 ++ (vx_atS RX1 27 "java/lang/IllegalStateException" ["java/lang/RuntimeException", "java/lang/Exception"]).filter goodWord ++ (vx_atS RX1 222 "java/lang/IllegalArgumentException" ["java/lang/RuntimeException", "java/lang/Exception"]).filter goodWord ++ (vx_atS RX1 212 "java/lang/IndexOutOfBoundsException" ["java/lang/RuntimeException", "java/lang/Exception"]).filter goodWord)
def wsL_law0_r1 : List Cond := [Cond.classLink RL 29 RX1, Cond.instantiable RX1 2, Cond.initialized RX1, Cond.arrayClass .int, Cond.fieldLink RL 9 "SleepBorderLaw$Sim" "travellers" "[[I", Cond.methodLink RL 63 yX1_init, Cond.instanceMethod yX1_init, Cond.code yX1_init cX1_init 1 none, Cond.methodLink RX1 1 objectInit, Cond.instanceMethod objectInit, Cond.code objectInit ⟨#[0xb1]⟩ 1 none, Cond.classLink RX1 7 RX0, Cond.instantiable RX0 15, Cond.initialized RX0, Cond.fieldLink RX1 10 "SleepBorder" "now" "LSleepBorder$Border;", Cond.fieldLink RX1 16 "SleepBorder" "trial" "LSleepBorder$Border;", Cond.instanceMethod yX0_init, Cond.code yX0_init cX0_init 1 none, Cond.methodLink RX0 3 objectInit, Cond.fieldLink RX0 9 "SleepBorder$Border" "clock" "I", Cond.fieldLink RX0 15 "SleepBorder$Border" "expiredCount" "I", Cond.fieldLink RX0 18 "SleepBorder$Border" "till" "I", Cond.fieldLink RX0 21 "SleepBorder$Border" "travellerCount" "I", Cond.fieldLink RX0 24 "SleepBorder$Border" "dreams" "[I"]
def wsL_law0_r2 : List Cond := [Cond.fieldLink RX0 28 "SleepBorder$Border" "declared" "[I", Cond.fieldLink RX0 31 "SleepBorder$Border" "snore" "[I", Cond.fieldLink RX0 34 "SleepBorder$Border" "lullaby" "[I", Cond.fieldLink RX0 37 "SleepBorder$Border" "state" "[I", Cond.fieldLink RX0 40 "SleepBorder$Border" "transitLeft" "[I", Cond.fieldLink RX0 43 "SleepBorder$Border" "asleepSince" "[I", Cond.fieldLink RX0 46 "SleepBorder$Border" "guardCount" "I", Cond.fieldLink RX0 49 "SleepBorder$Border" "alertness" "[I", Cond.fieldLink RX0 52 "SleepBorder$Border" "searched" "[I", Cond.fieldLink RX0 55 "SleepBorder$Border" "searchLeft" "[I", Cond.methodLink RL 64 yL_build, Cond.static yL_build, Cond.initialized RL, Cond.code yL_build cL_build 6 (some (.object "SleepBorderLaw$Sim")), Cond.classLink RL 10 RX2, Cond.instantiable RX2 5, Cond.initialized RX2, Cond.fieldLink RL 15 "SleepBorderLaw$Sim" "guards" "[[I", Cond.instanceMethod yX2_init, Cond.code yX2_init cX2_init 1 none, Cond.methodLink RX2 1 objectInit, Cond.classLink RX2 7 "[I", Cond.fieldLink RX2 9 "SleepBorderLaw$Sim" "guards" "[[I", Cond.fieldLink RX2 15 "SleepBorderLaw$Sim" "travellers" "[[I"]
def wsL_law0_r3 : List Cond := [Cond.methodLink RL 55 yL_cell, Cond.static yL_cell, Cond.code yL_cell cL_cell 2 (some .int), Cond.constant RL 8 (790386105), Cond.methodLink RL 18 yL_below, Cond.static yL_below, Cond.code yL_below cL_below 2 (some .int), Cond.constant RL 7 (2147483647), Cond.methodLink RL 24 yX2_with, Cond.static yX2_with, Cond.code yX2_with cX2_with 4 (some (.array (.array .int))), Cond.methodLink RL 28 yX1_addGuard, Cond.instanceMethod yX1_addGuard, Cond.selects RX1 yX1_addGuard yX1_addGuard, Cond.code yX1_addGuard cX1_addGuard 1 (some .int), Cond.classLink RX1 23 "java/lang/IllegalStateException", Cond.initialized "java/lang/IllegalStateException", Cond.fieldLink RX1 19 "SleepBorder$Border" "guardCount" "I", Cond.methodLink RX1 30 yX0_admitGuard, Cond.instanceMethod yX0_admitGuard, Cond.selects RX0 yX0_admitGuard yX0_admitGuard, Cond.code yX0_admitGuard cX0_admitGuard 1 none, Cond.methodLink RL 59 yL_act, Cond.static yL_act]
def wsL_law0_r4 : List Cond := [Cond.code yL_act cL_act 13 (some .boolean), Cond.methodLink RL 34 yX1_arrive, Cond.instanceMethod yX1_arrive, Cond.selects RX1 yX1_arrive yX1_arrive, Cond.code yX1_arrive cX1_arrive 5 (some .int), Cond.fieldLink RX1 40 "SleepBorder$Border" "travellerCount" "I", Cond.methodLink RX1 33 yX1_requireDigit, Cond.static yX1_requireDigit, Cond.code yX1_requireDigit cX1_requireDigit 1 none, Cond.classLink RX1 218 "java/lang/IllegalArgumentException", Cond.initialized "java/lang/IllegalArgumentException", Cond.methodLink RX1 37 yX1_requireMinutes, Cond.static yX1_requireMinutes, Cond.code yX1_requireMinutes cX1_requireMinutes 1 none, Cond.methodLink RX1 45 yX0_admitTraveller, Cond.instanceMethod yX0_admitTraveller, Cond.selects RX0 yX0_admitTraveller yX0_admitTraveller, Cond.code yX0_admitTraveller cX0_admitTraveller 5 none, Cond.methodLink RL 38 yX1_declare, Cond.instanceMethod yX1_declare, Cond.selects RX1 yX1_declare yX1_declare, Cond.code yX1_declare cX1_declare 4 (some .int), Cond.fieldLink RX1 55 "SleepBorder$Border" "declared" "[I", Cond.methodLink RX1 49 yX1_requireTraveller]
def wsL_law0_r5 : List Cond := [Cond.instanceMethod yX1_requireTraveller, Cond.selects RX1 yX1_requireTraveller yX1_requireTraveller, Cond.code yX1_requireTraveller cX1_requireTraveller 2 none, Cond.classLink RX1 208 "java/lang/IndexOutOfBoundsException", Cond.initialized "java/lang/IndexOutOfBoundsException", Cond.methodLink RX1 204 yX0_isTraveller, Cond.instanceMethod yX0_isTraveller, Cond.selects RX0 yX0_isTraveller yX0_isTraveller, Cond.code yX0_isTraveller cX0_isTraveller 2 (some .boolean), Cond.methodLink RX1 52 yX1_requireWaiting, Cond.instanceMethod yX1_requireWaiting, Cond.selects RX1 yX1_requireWaiting yX1_requireWaiting, Cond.code yX1_requireWaiting cX1_requireWaiting 2 none, Cond.fieldLink RX1 91 "SleepBorder$Border" "state" "[I", Cond.methodLink RL 41 yX1_sing, Cond.instanceMethod yX1_sing, Cond.selects RX1 yX1_sing yX1_sing, Cond.code yX1_sing cX1_sing 4 (some .int), Cond.fieldLink RX1 59 "SleepBorder$Border" "lullaby" "[I", Cond.methodLink RL 44 yX1_wake, Cond.instanceMethod yX1_wake, Cond.selects RX1 yX1_wake yX1_wake, Cond.code yX1_wake cX1_wake 3 (some .int), Cond.fieldLink RX1 65 "SleepBorder$Border" "alertness" "[I"]
def wsL_law0_r6 : List Cond := [Cond.methodLink RX1 62 yX1_requireGuard, Cond.instanceMethod yX1_requireGuard, Cond.selects RX1 yX1_requireGuard yX1_requireGuard, Cond.code yX1_requireGuard cX1_requireGuard 2 none, Cond.methodLink RX1 213 yX0_isGuard, Cond.instanceMethod yX0_isGuard, Cond.selects RX0 yX0_isGuard yX0_isGuard, Cond.code yX0_isGuard cX0_isGuard 2 (some .boolean), Cond.methodLink RL 48 yX1_pass, Cond.instanceMethod yX1_pass, Cond.selects RX1 yX1_pass yX1_pass, Cond.code yX1_pass cX1_pass 4 (some .int), Cond.methodLink RX1 68 yX0_countIn, Cond.instanceMethod yX0_countIn, Cond.selects RX0 yX0_countIn yX0_countIn, Cond.code yX0_countIn cX0_countIn 4 (some .int), Cond.methodLink RX1 72 yX0_goOneMinute, Cond.instanceMethod yX0_goOneMinute, Cond.selects RX0 yX0_goOneMinute yX0_goOneMinute, Cond.code yX0_goOneMinute cX0_goOneMinute 3 none, Cond.methodLink RX0 73 yX0_advanceTransits, Cond.instanceMethod yX0_advanceTransits, Cond.selects RX0 yX0_advanceTransits yX0_advanceTransits, Cond.code yX0_advanceTransits cX0_advanceTransits 2 none]
def wsL_law0_r7 : List Cond := [Cond.methodLink RX0 76 yX0_shortenLullabies, Cond.instanceMethod yX0_shortenLullabies, Cond.selects RX0 yX0_shortenLullabies yX0_shortenLullabies, Cond.code yX0_shortenLullabies cX0_shortenLullabies 2 none, Cond.methodLink RX0 79 yX0_isTraveller, Cond.methodLink RX0 83 yX0_searchOn, Cond.instanceMethod yX0_searchOn, Cond.selects RX0 yX0_searchOn yX0_searchOn, Cond.code yX0_searchOn cX0_searchOn 3 none, Cond.methodLink RX0 107 Lib.Math.max.name, Cond.static Lib.Math.max.name, Cond.initialized "java/lang/Math", Cond.code Lib.Math.max.name Lib.Math.max.code 2 (some .int), Cond.methodLink RX0 103 yX0_finds, Cond.instanceMethod yX0_finds, Cond.selects RX0 yX0_finds yX0_finds, Cond.code yX0_finds cX0_finds 4 (some .boolean), Cond.methodLink RX0 62 yX0_hiddenDreams, Cond.instanceMethod yX0_hiddenDreams, Cond.selects RX0 yX0_hiddenDreams yX0_hiddenDreams, Cond.code yX0_hiddenDreams cX0_hiddenDreams 3 (some .int), Cond.methodLink RX0 87 yX0_beginSearchOrRest, Cond.instanceMethod yX0_beginSearchOrRest, Cond.selects RX0 yX0_beginSearchOrRest yX0_beginSearchOrRest]
def wsL_law0_r8 : List Cond := [Cond.code yX0_beginSearchOrRest cX0_beginSearchOrRest 3 none, Cond.methodLink RX0 97 Lib.Math.min.name, Cond.static Lib.Math.min.name, Cond.code Lib.Math.min.name Lib.Math.min.code 2 (some .int), Cond.methodLink RX0 91 yX0_firstWaiting, Cond.instanceMethod yX0_firstWaiting, Cond.selects RX0 yX0_firstWaiting yX0_firstWaiting, Cond.code yX0_firstWaiting cX0_firstWaiting 2 (some .int), Cond.methodLink RX0 94 yX0_searchMinutes, Cond.instanceMethod yX0_searchMinutes, Cond.selects RX0 yX0_searchMinutes yX0_searchMinutes, Cond.code yX0_searchMinutes cX0_searchMinutes 2 (some .int), Cond.methodLink RX0 58 yX0_addedSnores, Cond.instanceMethod yX0_addedSnores, Cond.selects RX0 yX0_addedSnores yX0_addedSnores, Cond.code yX0_addedSnores cX0_addedSnores 3 (some .int), Cond.methodLink RL 51 yX2_behind, Cond.instanceMethod yX2_behind, Cond.selects RX2 yX2_behind yX2_behind, Cond.code yX2_behind cX2_behind 4 (some .int), Cond.methodLink RX2 43 yX2_count, Cond.instanceMethod yX2_count, Cond.selects RX2 yX2_count yX2_count, Cond.code yX2_count cX2_count 7 (some .int)]
def wsL_law0_r9 : List Cond := [Cond.methodLink RX2 47 yX2_pass, Cond.instanceMethod yX2_pass, Cond.selects RX2 yX2_pass yX2_pass, Cond.code yX2_pass cX2_pass 6 none, Cond.arrayClass .boolean, Cond.fieldLink RX2 18 "SleepBorderLaw$Sim" "expired" "I", Cond.fieldLink RX2 33 "SleepBorderLaw$Sim" "paid" "I", Cond.fieldLink RX2 40 "SleepBorderLaw$Sim" "minute" "I", Cond.methodLink RX2 22 yX2_next, Cond.instanceMethod yX2_next, Cond.selects RX2 yX2_next yX2_next, Cond.code yX2_next cX2_next 2 (some .int), Cond.methodLink RX2 26 yX2_noise, Cond.instanceMethod yX2_noise, Cond.selects RX2 yX2_noise yX2_noise, Cond.code yX2_noise cX2_noise 6 (some .int), Cond.methodLink RX2 29 yX2_finds, Cond.static yX2_finds, Cond.code yX2_finds cX2_finds 2 (some .boolean), Cond.methodLink RX2 36 yX2_hidden, Cond.static yX2_hidden, Cond.code yX2_hidden cX2_hidden 1 (some .int), Cond.methodLink RL 68 yX1_travellers, Cond.instanceMethod yX1_travellers]
def wsL_law0_r10 : List Cond := [Cond.selects RX1 yX1_travellers yX1_travellers, Cond.code yX1_travellers cX1_travellers 1 (some .int), Cond.methodLink RL 70 yX1_guards, Cond.instanceMethod yX1_guards, Cond.selects RX1 yX1_guards yX1_guards, Cond.code yX1_guards cX1_guards 1 (some .int), Cond.methodLink RL 72 yX1_searches, Cond.instanceMethod yX1_searches, Cond.selects RX1 yX1_searches yX1_searches, Cond.code yX1_searches cX1_searches 2 (some .int), Cond.fieldLink RX1 103 "SleepBorder$Border" "searched" "[I", Cond.methodLink RL 75 yX1_alertnessOf, Cond.instanceMethod yX1_alertnessOf, Cond.selects RX1 yX1_alertnessOf yX1_alertnessOf, Cond.code yX1_alertnessOf cX1_alertnessOf 2 (some .int), Cond.methodLink RL 78 yX1_mostAlert, Cond.instanceMethod yX1_mostAlert, Cond.selects RX1 yX1_mostAlert yX1_mostAlert, Cond.code yX1_mostAlert cX1_mostAlert 4 (some .int), Cond.methodLink RL 81 yX1_minutesToGo, Cond.instanceMethod yX1_minutesToGo, Cond.selects RX1 yX1_minutesToGo yX1_minutesToGo, Cond.code yX1_minutesToGo cX1_minutesToGo 2 (some .int), Cond.fieldLink RX1 106 "SleepBorder$Border" "searchLeft" "[I"]
def wsL_law0_r11 : List Cond := [Cond.methodLink RL 84 yX1_stateOf, Cond.instanceMethod yX1_stateOf, Cond.selects RX1 yX1_stateOf yX1_stateOf, Cond.code yX1_stateOf cX1_stateOf 2 (some .int), Cond.methodLink RL 87 yX1_lullabyOf, Cond.instanceMethod yX1_lullabyOf, Cond.selects RX1 yX1_lullabyOf yX1_lullabyOf, Cond.code yX1_lullabyOf cX1_lullabyOf 2 (some .int), Cond.methodLink RL 90 yX1_nextInLine, Cond.instanceMethod yX1_nextInLine, Cond.selects RX1 yX1_nextInLine yX1_nextInLine, Cond.code yX1_nextInLine cX1_nextInLine 1 (some .int), Cond.methodLink RX1 88 yX0_firstWaiting, Cond.methodLink RL 93 yX1_placeInLine, Cond.instanceMethod yX1_placeInLine, Cond.selects RX1 yX1_placeInLine yX1_placeInLine, Cond.code yX1_placeInLine cX1_placeInLine 2 (some .int), Cond.methodLink RX1 97 yX0_waitingAhead, Cond.instanceMethod yX0_waitingAhead, Cond.selects RX0 yX0_waitingAhead yX0_waitingAhead, Cond.code yX0_waitingAhead cX0_waitingAhead 4 (some .int), Cond.methodLink RL 96 yX1_hiddenOf, Cond.instanceMethod yX1_hiddenOf, Cond.selects RX1 yX1_hiddenOf yX1_hiddenOf]
def wsL_law0_r12 : List Cond := [Cond.code yX1_hiddenOf cX1_hiddenOf 2 (some .int), Cond.methodLink RX1 94 yX0_hiddenDreams, Cond.methodLink RL 99 yX1_searchTime, Cond.instanceMethod yX1_searchTime, Cond.selects RX1 yX1_searchTime yX1_searchTime, Cond.code yX1_searchTime cX1_searchTime 2 (some .int), Cond.methodLink RX1 100 yX0_searchMinutes, Cond.methodLink RL 102 yX1_noise, Cond.instanceMethod yX1_noise, Cond.selects RX1 yX1_noise yX1_noise, Cond.code yX1_noise cX1_noise 1 (some .int), Cond.methodLink RX1 84 yX0_addedSnores, Cond.methodLink RL 105 yX1_waiting, Cond.instanceMethod yX1_waiting, Cond.selects RX1 yX1_waiting yX1_waiting, Cond.code yX1_waiting cX1_waiting 1 (some .int), Cond.methodLink RL 108 yX1_asleep, Cond.instanceMethod yX1_asleep, Cond.selects RX1 yX1_asleep yX1_asleep, Cond.code yX1_asleep cX1_asleep 1 (some .int), Cond.methodLink RL 111 yX1_sentBack, Cond.instanceMethod yX1_sentBack, Cond.selects RX1 yX1_sentBack yX1_sentBack, Cond.code yX1_sentBack cX1_sentBack 1 (some .int)]
def wsL_law0_r13 : List Cond := [Cond.methodLink RL 114 yX1_expired, Cond.instanceMethod yX1_expired, Cond.selects RX1 yX1_expired yX1_expired, Cond.code yX1_expired cX1_expired 1 (some .int), Cond.fieldLink RX1 78 "SleepBorder$Border" "expiredCount" "I", Cond.methodLink RL 117 yX1_paid, Cond.instanceMethod yX1_paid, Cond.selects RX1 yX1_paid yX1_paid, Cond.code yX1_paid cX1_paid 1 (some .int), Cond.fieldLink RX1 81 "SleepBorder$Border" "till" "I", Cond.methodLink RL 120 yX1_minute, Cond.instanceMethod yX1_minute, Cond.selects RX1 yX1_minute yX1_minute, Cond.code yX1_minute cX1_minute 1 (some .int), Cond.fieldLink RX1 75 "SleepBorder$Border" "clock" "I", Cond.methodLink RL 123 yX2_pass, Cond.methodLink RL 125 yX2_isSame, Cond.instanceMethod yX2_isSame, Cond.selects RX2 yX2_isSame yX2_isSame, Cond.code yX2_isSame cX2_isSame 8 (some .boolean), Cond.methodLink RX2 59 yX1_minute, Cond.methodLink RX2 63 yX1_travellers, Cond.methodLink RX2 65 yX1_waiting, Cond.methodLink RX2 68 yX1_asleep]
def wsL_law0_r14 : List Cond := [Cond.methodLink RX2 71 yX1_sentBack, Cond.methodLink RX2 74 yX1_expired, Cond.methodLink RX2 76 yX1_paid, Cond.methodLink RX2 78 yX1_noise, Cond.methodLink RX2 79 yX1_nextInLine, Cond.methodLink RX2 82 yX1_guards, Cond.methodLink RX2 84 yX1_stateOf, Cond.methodLink RX2 87 yX1_hiddenOf, Cond.methodLink RX2 90 yX1_lullabyOf, Cond.methodLink RX2 93 yX1_placeInLine, Cond.methodLink RX2 96 yX1_searchTime, Cond.methodLink RX2 99 yX1_alertnessOf, Cond.methodLink RX2 102 yX1_searches, Cond.methodLink RX2 105 yX1_minutesToGo, Cond.methodLink RX2 108 yX1_wouldFind, Cond.instanceMethod yX1_wouldFind, Cond.selects RX1 yX1_wouldFind yX1_wouldFind, Cond.code yX1_wouldFind cX1_wouldFind 3 (some .boolean), Cond.methodLink RX1 109 yX0_finds, Cond.methodLink RX2 112 yX1_mostAlert, Cond.methodLink RX2 115 yX1_meanAlertness, Cond.instanceMethod yX1_meanAlertness, Cond.selects RX1 yX1_meanAlertness yX1_meanAlertness, Cond.code yX1_meanAlertness cX1_meanAlertness 3 (some .double)]
def wsL_law0 : List Cond := (wsL_law0_r1 ++ (wsL_law0_r2 ++ (wsL_law0_r3 ++ (wsL_law0_r4 ++ (wsL_law0_r5 ++ (wsL_law0_r6 ++ (wsL_law0_r7 ++ (wsL_law0_r8 ++ (wsL_law0_r9 ++ (wsL_law0_r10 ++ (wsL_law0_r11 ++ (wsL_law0_r12 ++ (wsL_law0_r13 ++ wsL_law0_r14))))))))))))) ++ wsX10 ++ wsX20 ++ wsX00 ++ ([] : List Cond)
def wsL_law : List Cond := wsL_law0 ++ (vx_atS RX1 27 "java/lang/IllegalStateException" ["java/lang/RuntimeException", "java/lang/Exception"]).filter goodWord ++ (vx_atS RX1 222 "java/lang/IllegalArgumentException" ["java/lang/RuntimeException", "java/lang/Exception"]).filter goodWord ++ (vx_atS RX1 212 "java/lang/IndexOutOfBoundsException" ["java/lang/RuntimeException", "java/lang/Exception"]).filter goodWord
abbrev vwCl : List vw_C := [(RX0, TX0, 15), (RX1, TX1, 2), (RX2, TX2, 5)]
end
section
theorem dX0_init_0 : decode cX0_init 0 = .ok (.aload_n 0, 1) := by decide +kernel
theorem dX0_init_1 : decode cX0_init 1 = .ok (.invokespecial 3, 3) := by decide +kernel
theorem dX0_init_4 : decode cX0_init 4 = .ok (.aload_n 0, 1) := by decide +kernel
theorem dX0_init_5 : decode cX0_init 5 = .ok (.iconst 0, 1) := by decide +kernel
theorem dX0_init_6 : decode cX0_init 6 = .ok (.putfield 9, 3) := by decide +kernel
theorem dX0_init_9 : decode cX0_init 9 = .ok (.aload_n 0, 1) := by decide +kernel
theorem dX0_init_10 : decode cX0_init 10 = .ok (.iconst 0, 1) := by decide +kernel
theorem dX0_init_11 : decode cX0_init 11 = .ok (.putfield 15, 3) := by decide +kernel
theorem dX0_init_14 : decode cX0_init 14 = .ok (.aload_n 0, 1) := by decide +kernel
theorem dX0_init_15 : decode cX0_init 15 = .ok (.iconst 0, 1) := by decide +kernel
theorem dX0_init_16 : decode cX0_init 16 = .ok (.putfield 18, 3) := by decide +kernel
theorem dX0_init_19 : decode cX0_init 19 = .ok (.aload_n 0, 1) := by decide +kernel
theorem dX0_init_20 : decode cX0_init 20 = .ok (.iconst 0, 1) := by decide +kernel
theorem dX0_init_21 : decode cX0_init 21 = .ok (.putfield 21, 3) := by decide +kernel
theorem dX0_init_24 : decode cX0_init 24 = .ok (.aload_n 0, 1) := by decide +kernel
theorem dX0_init_25 : decode cX0_init 25 = .ok (.bipush 24, 2) := by decide +kernel
theorem dX0_init_27 : decode cX0_init 27 = .ok (.newarray .int, 2) := by decide +kernel
theorem dX0_init_29 : decode cX0_init 29 = .ok (.putfield 24, 3) := by decide +kernel
theorem dX0_init_32 : decode cX0_init 32 = .ok (.aload_n 0, 1) := by decide +kernel
theorem dX0_init_33 : decode cX0_init 33 = .ok (.bipush 24, 2) := by decide +kernel
theorem dX0_init_35 : decode cX0_init 35 = .ok (.newarray .int, 2) := by decide +kernel
theorem dX0_init_37 : decode cX0_init 37 = .ok (.putfield 28, 3) := by decide +kernel
theorem dX0_init_40 : decode cX0_init 40 = .ok (.aload_n 0, 1) := by decide +kernel
theorem dX0_init_41 : decode cX0_init 41 = .ok (.bipush 24, 2) := by decide +kernel
theorem dX0_init_43 : decode cX0_init 43 = .ok (.newarray .int, 2) := by decide +kernel
theorem dX0_init_45 : decode cX0_init 45 = .ok (.putfield 31, 3) := by decide +kernel
theorem dX0_init_48 : decode cX0_init 48 = .ok (.aload_n 0, 1) := by decide +kernel
theorem dX0_init_49 : decode cX0_init 49 = .ok (.bipush 24, 2) := by decide +kernel
theorem dX0_init_51 : decode cX0_init 51 = .ok (.newarray .int, 2) := by decide +kernel
theorem dX0_init_53 : decode cX0_init 53 = .ok (.putfield 34, 3) := by decide +kernel
theorem dX0_init_56 : decode cX0_init 56 = .ok (.aload_n 0, 1) := by decide +kernel
theorem dX0_init_57 : decode cX0_init 57 = .ok (.bipush 24, 2) := by decide +kernel
theorem dX0_init_59 : decode cX0_init 59 = .ok (.newarray .int, 2) := by decide +kernel
theorem dX0_init_61 : decode cX0_init 61 = .ok (.putfield 37, 3) := by decide +kernel
theorem dX0_init_64 : decode cX0_init 64 = .ok (.aload_n 0, 1) := by decide +kernel
theorem dX0_init_65 : decode cX0_init 65 = .ok (.bipush 24, 2) := by decide +kernel
theorem dX0_init_67 : decode cX0_init 67 = .ok (.newarray .int, 2) := by decide +kernel
theorem dX0_init_69 : decode cX0_init 69 = .ok (.putfield 40, 3) := by decide +kernel
theorem dX0_init_72 : decode cX0_init 72 = .ok (.aload_n 0, 1) := by decide +kernel
theorem dX0_init_73 : decode cX0_init 73 = .ok (.bipush 24, 2) := by decide +kernel
theorem dX0_init_75 : decode cX0_init 75 = .ok (.newarray .int, 2) := by decide +kernel
theorem dX0_init_77 : decode cX0_init 77 = .ok (.putfield 43, 3) := by decide +kernel
theorem dX0_init_80 : decode cX0_init 80 = .ok (.aload_n 0, 1) := by decide +kernel
theorem dX0_init_81 : decode cX0_init 81 = .ok (.iconst 0, 1) := by decide +kernel
theorem dX0_init_82 : decode cX0_init 82 = .ok (.putfield 46, 3) := by decide +kernel
theorem dX0_init_85 : decode cX0_init 85 = .ok (.aload_n 0, 1) := by decide +kernel
theorem dX0_init_86 : decode cX0_init 86 = .ok (.bipush 8, 2) := by decide +kernel
theorem dX0_init_88 : decode cX0_init 88 = .ok (.newarray .int, 2) := by decide +kernel
theorem dX0_init_90 : decode cX0_init 90 = .ok (.putfield 49, 3) := by decide +kernel
theorem dX0_init_93 : decode cX0_init 93 = .ok (.aload_n 0, 1) := by decide +kernel
theorem dX0_init_94 : decode cX0_init 94 = .ok (.bipush 8, 2) := by decide +kernel
theorem dX0_init_96 : decode cX0_init 96 = .ok (.newarray .int, 2) := by decide +kernel
theorem dX0_init_98 : decode cX0_init 98 = .ok (.putfield 52, 3) := by decide +kernel
theorem dX0_init_101 : decode cX0_init 101 = .ok (.aload_n 0, 1) := by decide +kernel
theorem dX0_init_102 : decode cX0_init 102 = .ok (.bipush 8, 2) := by decide +kernel
theorem dX0_init_104 : decode cX0_init 104 = .ok (.newarray .int, 2) := by decide +kernel
theorem dX0_init_106 : decode cX0_init 106 = .ok (.putfield 55, 3) := by decide +kernel
theorem dX0_init_109 : decode cX0_init 109 = .ok (.return_, 1) := by decide +kernel
theorem dX0_admitGuard_0 : decode cX0_admitGuard 0 = .ok (.aload_n 0, 1) := by decide +kernel
theorem dX0_admitGuard_1 : decode cX0_admitGuard 1 = .ok (.getfield 46, 3) := by decide +kernel
theorem dX0_admitGuard_4 : decode cX0_admitGuard 4 = .ok (.bipush 8, 2) := by decide +kernel
theorem dX0_admitGuard_6 : decode cX0_admitGuard 6 = .ok (.if_icmp .lt 4, 3) := by decide +kernel
theorem dX0_admitGuard_9 : decode cX0_admitGuard 9 = .ok (.return_, 1) := by decide +kernel
theorem dX0_admitGuard_10 : decode cX0_admitGuard 10 = .ok (.aload_n 0, 1) := by decide +kernel
theorem dX0_admitGuard_11 : decode cX0_admitGuard 11 = .ok (.getfield 49, 3) := by decide +kernel
theorem dX0_admitGuard_14 : decode cX0_admitGuard 14 = .ok (.aload_n 0, 1) := by decide +kernel
theorem dX0_admitGuard_15 : decode cX0_admitGuard 15 = .ok (.getfield 46, 3) := by decide +kernel
theorem dX0_admitGuard_18 : decode cX0_admitGuard 18 = .ok (.bipush 9, 2) := by decide +kernel
theorem dX0_admitGuard_20 : decode cX0_admitGuard 20 = .ok (.iastore, 1) := by decide +kernel
theorem dX0_admitGuard_21 : decode cX0_admitGuard 21 = .ok (.aload_n 0, 1) := by decide +kernel
theorem dX0_admitGuard_22 : decode cX0_admitGuard 22 = .ok (.getfield 52, 3) := by decide +kernel
theorem dX0_admitGuard_25 : decode cX0_admitGuard 25 = .ok (.aload_n 0, 1) := by decide +kernel
theorem dX0_admitGuard_26 : decode cX0_admitGuard 26 = .ok (.getfield 46, 3) := by decide +kernel
theorem dX0_admitGuard_29 : decode cX0_admitGuard 29 = .ok (.iconst (-1), 1) := by decide +kernel
theorem dX0_admitGuard_30 : decode cX0_admitGuard 30 = .ok (.iastore, 1) := by decide +kernel
theorem dX0_admitGuard_31 : decode cX0_admitGuard 31 = .ok (.aload_n 0, 1) := by decide +kernel
theorem dX0_admitGuard_32 : decode cX0_admitGuard 32 = .ok (.getfield 55, 3) := by decide +kernel
theorem dX0_admitGuard_35 : decode cX0_admitGuard 35 = .ok (.aload_n 0, 1) := by decide +kernel
theorem dX0_admitGuard_36 : decode cX0_admitGuard 36 = .ok (.getfield 46, 3) := by decide +kernel
theorem dX0_admitGuard_39 : decode cX0_admitGuard 39 = .ok (.iconst 0, 1) := by decide +kernel
theorem dX0_admitGuard_40 : decode cX0_admitGuard 40 = .ok (.iastore, 1) := by decide +kernel
theorem dX0_admitGuard_41 : decode cX0_admitGuard 41 = .ok (.aload_n 0, 1) := by decide +kernel
theorem dX0_admitGuard_42 : decode cX0_admitGuard 42 = .ok (.dup, 1) := by decide +kernel
theorem dX0_admitGuard_43 : decode cX0_admitGuard 43 = .ok (.getfield 46, 3) := by decide +kernel
theorem dX0_admitGuard_46 : decode cX0_admitGuard 46 = .ok (.iconst 1, 1) := by decide +kernel
theorem dX0_admitGuard_47 : decode cX0_admitGuard 47 = .ok (.iadd, 1) := by decide +kernel
theorem dX0_admitGuard_48 : decode cX0_admitGuard 48 = .ok (.putfield 46, 3) := by decide +kernel
theorem dX0_admitGuard_51 : decode cX0_admitGuard 51 = .ok (.return_, 1) := by decide +kernel
theorem dX0_admitTraveller_0 : decode cX0_admitTraveller 0 = .ok (.aload_n 0, 1) := by decide +kernel
theorem dX0_admitTraveller_1 : decode cX0_admitTraveller 1 = .ok (.getfield 21, 3) := by decide +kernel
theorem dX0_admitTraveller_4 : decode cX0_admitTraveller 4 = .ok (.bipush 24, 2) := by decide +kernel
theorem dX0_admitTraveller_6 : decode cX0_admitTraveller 6 = .ok (.if_icmp .lt 4, 3) := by decide +kernel
theorem dX0_admitTraveller_9 : decode cX0_admitTraveller 9 = .ok (.return_, 1) := by decide +kernel
theorem dX0_admitTraveller_10 : decode cX0_admitTraveller 10 = .ok (.aload_n 0, 1) := by decide +kernel
theorem dX0_admitTraveller_11 : decode cX0_admitTraveller 11 = .ok (.getfield 24, 3) := by decide +kernel
theorem dX0_admitTraveller_14 : decode cX0_admitTraveller 14 = .ok (.aload_n 0, 1) := by decide +kernel
theorem dX0_admitTraveller_15 : decode cX0_admitTraveller 15 = .ok (.getfield 21, 3) := by decide +kernel
theorem dX0_admitTraveller_18 : decode cX0_admitTraveller 18 = .ok (.iload_n 1, 1) := by decide +kernel
theorem dX0_admitTraveller_19 : decode cX0_admitTraveller 19 = .ok (.iastore, 1) := by decide +kernel
theorem dX0_admitTraveller_20 : decode cX0_admitTraveller 20 = .ok (.aload_n 0, 1) := by decide +kernel
theorem dX0_admitTraveller_21 : decode cX0_admitTraveller 21 = .ok (.getfield 28, 3) := by decide +kernel
theorem dX0_admitTraveller_24 : decode cX0_admitTraveller 24 = .ok (.aload_n 0, 1) := by decide +kernel
theorem dX0_admitTraveller_25 : decode cX0_admitTraveller 25 = .ok (.getfield 21, 3) := by decide +kernel
theorem dX0_admitTraveller_28 : decode cX0_admitTraveller 28 = .ok (.iload_n 2, 1) := by decide +kernel
theorem dX0_admitTraveller_29 : decode cX0_admitTraveller 29 = .ok (.iastore, 1) := by decide +kernel
theorem dX0_admitTraveller_30 : decode cX0_admitTraveller 30 = .ok (.aload_n 0, 1) := by decide +kernel
theorem dX0_admitTraveller_31 : decode cX0_admitTraveller 31 = .ok (.getfield 31, 3) := by decide +kernel
theorem dX0_admitTraveller_34 : decode cX0_admitTraveller 34 = .ok (.aload_n 0, 1) := by decide +kernel
theorem dX0_admitTraveller_35 : decode cX0_admitTraveller 35 = .ok (.getfield 21, 3) := by decide +kernel
theorem dX0_admitTraveller_38 : decode cX0_admitTraveller 38 = .ok (.iload_n 3, 1) := by decide +kernel
theorem dX0_admitTraveller_39 : decode cX0_admitTraveller 39 = .ok (.iastore, 1) := by decide +kernel
theorem dX0_admitTraveller_40 : decode cX0_admitTraveller 40 = .ok (.aload_n 0, 1) := by decide +kernel
theorem dX0_admitTraveller_41 : decode cX0_admitTraveller 41 = .ok (.getfield 34, 3) := by decide +kernel
theorem dX0_admitTraveller_44 : decode cX0_admitTraveller 44 = .ok (.aload_n 0, 1) := by decide +kernel
theorem dX0_admitTraveller_45 : decode cX0_admitTraveller 45 = .ok (.getfield 21, 3) := by decide +kernel
theorem dX0_admitTraveller_48 : decode cX0_admitTraveller 48 = .ok (.iload 4, 2) := by decide +kernel
theorem dX0_admitTraveller_50 : decode cX0_admitTraveller 50 = .ok (.iastore, 1) := by decide +kernel
theorem dX0_admitTraveller_51 : decode cX0_admitTraveller 51 = .ok (.aload_n 0, 1) := by decide +kernel
theorem dX0_admitTraveller_52 : decode cX0_admitTraveller 52 = .ok (.getfield 37, 3) := by decide +kernel
theorem dX0_admitTraveller_55 : decode cX0_admitTraveller 55 = .ok (.aload_n 0, 1) := by decide +kernel
theorem dX0_admitTraveller_56 : decode cX0_admitTraveller 56 = .ok (.getfield 21, 3) := by decide +kernel
theorem dX0_admitTraveller_59 : decode cX0_admitTraveller 59 = .ok (.iconst 0, 1) := by decide +kernel
theorem dX0_admitTraveller_60 : decode cX0_admitTraveller 60 = .ok (.iastore, 1) := by decide +kernel
theorem dX0_admitTraveller_61 : decode cX0_admitTraveller 61 = .ok (.aload_n 0, 1) := by decide +kernel
theorem dX0_admitTraveller_62 : decode cX0_admitTraveller 62 = .ok (.dup, 1) := by decide +kernel
theorem dX0_admitTraveller_63 : decode cX0_admitTraveller 63 = .ok (.getfield 21, 3) := by decide +kernel
theorem dX0_admitTraveller_66 : decode cX0_admitTraveller 66 = .ok (.iconst 1, 1) := by decide +kernel
theorem dX0_admitTraveller_67 : decode cX0_admitTraveller 67 = .ok (.iadd, 1) := by decide +kernel
theorem dX0_admitTraveller_68 : decode cX0_admitTraveller 68 = .ok (.putfield 21, 3) := by decide +kernel
theorem dX0_admitTraveller_71 : decode cX0_admitTraveller 71 = .ok (.return_, 1) := by decide +kernel
theorem dX0_isTraveller_0 : decode cX0_isTraveller 0 = .ok (.iload_n 1, 1) := by decide +kernel
theorem dX0_isTraveller_1 : decode cX0_isTraveller 1 = .ok (.ifCond .lt 15, 3) := by decide +kernel
theorem dX0_isTraveller_4 : decode cX0_isTraveller 4 = .ok (.iload_n 1, 1) := by decide +kernel
theorem dX0_isTraveller_5 : decode cX0_isTraveller 5 = .ok (.aload_n 0, 1) := by decide +kernel
theorem dX0_isTraveller_6 : decode cX0_isTraveller 6 = .ok (.getfield 21, 3) := by decide +kernel
theorem dX0_isTraveller_9 : decode cX0_isTraveller 9 = .ok (.if_icmp .ge 7, 3) := by decide +kernel
theorem dX0_isTraveller_12 : decode cX0_isTraveller 12 = .ok (.iconst 1, 1) := by decide +kernel
theorem dX0_isTraveller_13 : decode cX0_isTraveller 13 = .ok (.goto 4, 3) := by decide +kernel
theorem dX0_isTraveller_16 : decode cX0_isTraveller 16 = .ok (.iconst 0, 1) := by decide +kernel
theorem dX0_isTraveller_17 : decode cX0_isTraveller 17 = .ok (.ireturn, 1) := by decide +kernel
theorem dX0_isGuard_0 : decode cX0_isGuard 0 = .ok (.iload_n 1, 1) := by decide +kernel
theorem dX0_isGuard_1 : decode cX0_isGuard 1 = .ok (.ifCond .lt 15, 3) := by decide +kernel
theorem dX0_isGuard_4 : decode cX0_isGuard 4 = .ok (.iload_n 1, 1) := by decide +kernel
theorem dX0_isGuard_5 : decode cX0_isGuard 5 = .ok (.aload_n 0, 1) := by decide +kernel
theorem dX0_isGuard_6 : decode cX0_isGuard 6 = .ok (.getfield 46, 3) := by decide +kernel
theorem dX0_isGuard_9 : decode cX0_isGuard 9 = .ok (.if_icmp .ge 7, 3) := by decide +kernel
theorem dX0_isGuard_12 : decode cX0_isGuard 12 = .ok (.iconst 1, 1) := by decide +kernel
theorem dX0_isGuard_13 : decode cX0_isGuard 13 = .ok (.goto 4, 3) := by decide +kernel
theorem dX0_isGuard_16 : decode cX0_isGuard 16 = .ok (.iconst 0, 1) := by decide +kernel
theorem dX0_isGuard_17 : decode cX0_isGuard 17 = .ok (.ireturn, 1) := by decide +kernel
theorem dX0_countIn_0 : decode cX0_countIn 0 = .ok (.iconst 0, 1) := by decide +kernel
theorem dX0_countIn_1 : decode cX0_countIn 1 = .ok (.istore_n 2, 1) := by decide +kernel
theorem dX0_countIn_2 : decode cX0_countIn 2 = .ok (.iconst 0, 1) := by decide +kernel
theorem dX0_countIn_3 : decode cX0_countIn 3 = .ok (.istore_n 3, 1) := by decide +kernel
theorem dX0_countIn_4 : decode cX0_countIn 4 = .ok (.iload_n 3, 1) := by decide +kernel
theorem dX0_countIn_5 : decode cX0_countIn 5 = .ok (.aload_n 0, 1) := by decide +kernel
theorem dX0_countIn_6 : decode cX0_countIn 6 = .ok (.getfield 21, 3) := by decide +kernel
theorem dX0_countIn_9 : decode cX0_countIn 9 = .ok (.if_icmp .ge 22, 3) := by decide +kernel
theorem dX0_countIn_12 : decode cX0_countIn 12 = .ok (.aload_n 0, 1) := by decide +kernel
theorem dX0_countIn_13 : decode cX0_countIn 13 = .ok (.getfield 37, 3) := by decide +kernel
theorem dX0_countIn_16 : decode cX0_countIn 16 = .ok (.iload_n 3, 1) := by decide +kernel
theorem dX0_countIn_17 : decode cX0_countIn 17 = .ok (.iaload, 1) := by decide +kernel
theorem dX0_countIn_18 : decode cX0_countIn 18 = .ok (.iload_n 1, 1) := by decide +kernel
theorem dX0_countIn_19 : decode cX0_countIn 19 = .ok (.if_icmp .ne 6, 3) := by decide +kernel
theorem dX0_countIn_22 : decode cX0_countIn 22 = .ok (.iinc 2 1, 3) := by decide +kernel
theorem dX0_countIn_25 : decode cX0_countIn 25 = .ok (.iinc 3 1, 3) := by decide +kernel
theorem dX0_countIn_28 : decode cX0_countIn 28 = .ok (.goto (-24), 3) := by decide +kernel
theorem dX0_countIn_31 : decode cX0_countIn 31 = .ok (.iload_n 2, 1) := by decide +kernel
theorem dX0_countIn_32 : decode cX0_countIn 32 = .ok (.ireturn, 1) := by decide +kernel
theorem dX0_waitingAhead_0 : decode cX0_waitingAhead 0 = .ok (.iconst 0, 1) := by decide +kernel
theorem dX0_waitingAhead_1 : decode cX0_waitingAhead 1 = .ok (.istore_n 2, 1) := by decide +kernel
theorem dX0_waitingAhead_2 : decode cX0_waitingAhead 2 = .ok (.iconst 0, 1) := by decide +kernel
theorem dX0_waitingAhead_3 : decode cX0_waitingAhead 3 = .ok (.istore_n 3, 1) := by decide +kernel
theorem dX0_waitingAhead_4 : decode cX0_waitingAhead 4 = .ok (.iload_n 3, 1) := by decide +kernel
theorem dX0_waitingAhead_5 : decode cX0_waitingAhead 5 = .ok (.aload_n 0, 1) := by decide +kernel
theorem dX0_waitingAhead_6 : decode cX0_waitingAhead 6 = .ok (.getfield 21, 3) := by decide +kernel
theorem dX0_waitingAhead_9 : decode cX0_waitingAhead 9 = .ok (.if_icmp .ge 26, 3) := by decide +kernel
theorem dX0_waitingAhead_12 : decode cX0_waitingAhead 12 = .ok (.iload_n 3, 1) := by decide +kernel
theorem dX0_waitingAhead_13 : decode cX0_waitingAhead 13 = .ok (.iload_n 1, 1) := by decide +kernel
theorem dX0_waitingAhead_14 : decode cX0_waitingAhead 14 = .ok (.if_icmp .ge 21, 3) := by decide +kernel
theorem dX0_waitingAhead_17 : decode cX0_waitingAhead 17 = .ok (.aload_n 0, 1) := by decide +kernel
theorem dX0_waitingAhead_18 : decode cX0_waitingAhead 18 = .ok (.getfield 37, 3) := by decide +kernel
theorem dX0_waitingAhead_21 : decode cX0_waitingAhead 21 = .ok (.iload_n 3, 1) := by decide +kernel
theorem dX0_waitingAhead_22 : decode cX0_waitingAhead 22 = .ok (.iaload, 1) := by decide +kernel
theorem dX0_waitingAhead_23 : decode cX0_waitingAhead 23 = .ok (.ifCond .ne 6, 3) := by decide +kernel
theorem dX0_waitingAhead_26 : decode cX0_waitingAhead 26 = .ok (.iinc 2 1, 3) := by decide +kernel
theorem dX0_waitingAhead_29 : decode cX0_waitingAhead 29 = .ok (.iinc 3 1, 3) := by decide +kernel
theorem dX0_waitingAhead_32 : decode cX0_waitingAhead 32 = .ok (.goto (-28), 3) := by decide +kernel
theorem dX0_waitingAhead_35 : decode cX0_waitingAhead 35 = .ok (.iload_n 2, 1) := by decide +kernel
theorem dX0_waitingAhead_36 : decode cX0_waitingAhead 36 = .ok (.ireturn, 1) := by decide +kernel
theorem dX0_firstWaiting_0 : decode cX0_firstWaiting 0 = .ok (.iconst 0, 1) := by decide +kernel
theorem dX0_firstWaiting_1 : decode cX0_firstWaiting 1 = .ok (.istore_n 1, 1) := by decide +kernel
theorem dX0_firstWaiting_2 : decode cX0_firstWaiting 2 = .ok (.iload_n 1, 1) := by decide +kernel
theorem dX0_firstWaiting_3 : decode cX0_firstWaiting 3 = .ok (.aload_n 0, 1) := by decide +kernel
theorem dX0_firstWaiting_4 : decode cX0_firstWaiting 4 = .ok (.getfield 21, 3) := by decide +kernel
theorem dX0_firstWaiting_7 : decode cX0_firstWaiting 7 = .ok (.if_icmp .ge 20, 3) := by decide +kernel
theorem dX0_firstWaiting_10 : decode cX0_firstWaiting 10 = .ok (.aload_n 0, 1) := by decide +kernel
theorem dX0_firstWaiting_11 : decode cX0_firstWaiting 11 = .ok (.getfield 37, 3) := by decide +kernel
theorem dX0_firstWaiting_14 : decode cX0_firstWaiting 14 = .ok (.iload_n 1, 1) := by decide +kernel
theorem dX0_firstWaiting_15 : decode cX0_firstWaiting 15 = .ok (.iaload, 1) := by decide +kernel
theorem dX0_firstWaiting_16 : decode cX0_firstWaiting 16 = .ok (.ifCond .ne 5, 3) := by decide +kernel
theorem dX0_firstWaiting_19 : decode cX0_firstWaiting 19 = .ok (.iload_n 1, 1) := by decide +kernel
theorem dX0_firstWaiting_20 : decode cX0_firstWaiting 20 = .ok (.ireturn, 1) := by decide +kernel
theorem dX0_firstWaiting_21 : decode cX0_firstWaiting 21 = .ok (.iinc 1 1, 3) := by decide +kernel
theorem dX0_firstWaiting_24 : decode cX0_firstWaiting 24 = .ok (.goto (-22), 3) := by decide +kernel
theorem dX0_firstWaiting_27 : decode cX0_firstWaiting 27 = .ok (.iconst (-1), 1) := by decide +kernel
theorem dX0_firstWaiting_28 : decode cX0_firstWaiting 28 = .ok (.ireturn, 1) := by decide +kernel
theorem dX0_addedSnores_0 : decode cX0_addedSnores 0 = .ok (.iconst 0, 1) := by decide +kernel
theorem dX0_addedSnores_1 : decode cX0_addedSnores 1 = .ok (.istore_n 1, 1) := by decide +kernel
theorem dX0_addedSnores_2 : decode cX0_addedSnores 2 = .ok (.iconst 0, 1) := by decide +kernel
theorem dX0_addedSnores_3 : decode cX0_addedSnores 3 = .ok (.istore_n 2, 1) := by decide +kernel
theorem dX0_addedSnores_4 : decode cX0_addedSnores 4 = .ok (.iload_n 2, 1) := by decide +kernel
theorem dX0_addedSnores_5 : decode cX0_addedSnores 5 = .ok (.aload_n 0, 1) := by decide +kernel
theorem dX0_addedSnores_6 : decode cX0_addedSnores 6 = .ok (.getfield 21, 3) := by decide +kernel
theorem dX0_addedSnores_9 : decode cX0_addedSnores 9 = .ok (.if_icmp .ge 28, 3) := by decide +kernel
theorem dX0_addedSnores_12 : decode cX0_addedSnores 12 = .ok (.aload_n 0, 1) := by decide +kernel
theorem dX0_addedSnores_13 : decode cX0_addedSnores 13 = .ok (.getfield 37, 3) := by decide +kernel
theorem dX0_addedSnores_16 : decode cX0_addedSnores 16 = .ok (.iload_n 2, 1) := by decide +kernel
theorem dX0_addedSnores_17 : decode cX0_addedSnores 17 = .ok (.iaload, 1) := by decide +kernel
theorem dX0_addedSnores_18 : decode cX0_addedSnores 18 = .ok (.iconst 2, 1) := by decide +kernel
theorem dX0_addedSnores_19 : decode cX0_addedSnores 19 = .ok (.if_icmp .ne 12, 3) := by decide +kernel
theorem dX0_addedSnores_22 : decode cX0_addedSnores 22 = .ok (.iload_n 1, 1) := by decide +kernel
theorem dX0_addedSnores_23 : decode cX0_addedSnores 23 = .ok (.aload_n 0, 1) := by decide +kernel
theorem dX0_addedSnores_24 : decode cX0_addedSnores 24 = .ok (.getfield 31, 3) := by decide +kernel
theorem dX0_addedSnores_27 : decode cX0_addedSnores 27 = .ok (.iload_n 2, 1) := by decide +kernel
theorem dX0_addedSnores_28 : decode cX0_addedSnores 28 = .ok (.iaload, 1) := by decide +kernel
theorem dX0_addedSnores_29 : decode cX0_addedSnores 29 = .ok (.iadd, 1) := by decide +kernel
theorem dX0_addedSnores_30 : decode cX0_addedSnores 30 = .ok (.istore_n 1, 1) := by decide +kernel
theorem dX0_addedSnores_31 : decode cX0_addedSnores 31 = .ok (.iinc 2 1, 3) := by decide +kernel
theorem dX0_addedSnores_34 : decode cX0_addedSnores 34 = .ok (.goto (-30), 3) := by decide +kernel
theorem dX0_addedSnores_37 : decode cX0_addedSnores 37 = .ok (.iload_n 1, 1) := by decide +kernel
theorem dX0_addedSnores_38 : decode cX0_addedSnores 38 = .ok (.ireturn, 1) := by decide +kernel
theorem dX0_hiddenDreams_0 : decode cX0_hiddenDreams 0 = .ok (.aload_n 0, 1) := by decide +kernel
theorem dX0_hiddenDreams_1 : decode cX0_hiddenDreams 1 = .ok (.getfield 24, 3) := by decide +kernel
theorem dX0_hiddenDreams_4 : decode cX0_hiddenDreams 4 = .ok (.iload_n 1, 1) := by decide +kernel
theorem dX0_hiddenDreams_5 : decode cX0_hiddenDreams 5 = .ok (.iaload, 1) := by decide +kernel
theorem dX0_hiddenDreams_6 : decode cX0_hiddenDreams 6 = .ok (.aload_n 0, 1) := by decide +kernel
theorem dX0_hiddenDreams_7 : decode cX0_hiddenDreams 7 = .ok (.getfield 28, 3) := by decide +kernel
theorem dX0_hiddenDreams_10 : decode cX0_hiddenDreams 10 = .ok (.iload_n 1, 1) := by decide +kernel
theorem dX0_hiddenDreams_11 : decode cX0_hiddenDreams 11 = .ok (.iaload, 1) := by decide +kernel
theorem dX0_hiddenDreams_12 : decode cX0_hiddenDreams 12 = .ok (.isub, 1) := by decide +kernel
theorem dX0_hiddenDreams_13 : decode cX0_hiddenDreams 13 = .ok (.istore_n 2, 1) := by decide +kernel
theorem dX0_hiddenDreams_14 : decode cX0_hiddenDreams 14 = .ok (.iload_n 2, 1) := by decide +kernel
theorem dX0_hiddenDreams_15 : decode cX0_hiddenDreams 15 = .ok (.ifCond .le 7, 3) := by decide +kernel
theorem dX0_hiddenDreams_18 : decode cX0_hiddenDreams 18 = .ok (.iload_n 2, 1) := by decide +kernel
theorem dX0_hiddenDreams_19 : decode cX0_hiddenDreams 19 = .ok (.goto 4, 3) := by decide +kernel
theorem dX0_hiddenDreams_22 : decode cX0_hiddenDreams 22 = .ok (.iconst 0, 1) := by decide +kernel
theorem dX0_hiddenDreams_23 : decode cX0_hiddenDreams 23 = .ok (.ireturn, 1) := by decide +kernel
set_option maxRecDepth 20000 in
theorem ggX0_searchMinutes_X0_addedSnores : GoodIn wsX0_searchMinutes wsX0_addedSnores := goodIn_r _ [6, 7, 8, 9, 10, 11, 12, 13, 14, 15, 16, 17, 18, 19, 20, 21, 22, 23, 24] (by decide +kernel) (by decide +kernel)
set_option maxRecDepth 20000 in
theorem gX0_searchMinutes_X0_addedSnores : GoodIn wsX0_searchMinutes (wsV RX0 58 RX0 yX0_addedSnores wsX0_addedSnores) := goodIn_app (goodIn_of _ (by decide +kernel)) ggX0_searchMinutes_X0_addedSnores
theorem dX0_searchMinutes_0 : decode cX0_searchMinutes 0 = .ok (.iconst 2, 1) := by decide +kernel
theorem dX0_searchMinutes_1 : decode cX0_searchMinutes 1 = .ok (.aload_n 0, 1) := by decide +kernel
theorem dX0_searchMinutes_2 : decode cX0_searchMinutes 2 = .ok (.getfield 28, 3) := by decide +kernel
theorem dX0_searchMinutes_5 : decode cX0_searchMinutes 5 = .ok (.iload_n 1, 1) := by decide +kernel
theorem dX0_searchMinutes_6 : decode cX0_searchMinutes 6 = .ok (.iaload, 1) := by decide +kernel
theorem dX0_searchMinutes_7 : decode cX0_searchMinutes 7 = .ok (.iadd, 1) := by decide +kernel
theorem dX0_searchMinutes_8 : decode cX0_searchMinutes 8 = .ok (.aload_n 0, 1) := by decide +kernel
theorem dX0_searchMinutes_9 : decode cX0_searchMinutes 9 = .ok (.invokevirtual 58, 3) := by decide +kernel
theorem dX0_searchMinutes_12 : decode cX0_searchMinutes 12 = .ok (.iconst 4, 1) := by decide +kernel
theorem dX0_searchMinutes_13 : decode cX0_searchMinutes 13 = .ok (.idiv, 1) := by decide +kernel
theorem dX0_searchMinutes_14 : decode cX0_searchMinutes 14 = .ok (.iadd, 1) := by decide +kernel
theorem dX0_searchMinutes_15 : decode cX0_searchMinutes 15 = .ok (.ireturn, 1) := by decide +kernel
set_option maxRecDepth 20000 in
theorem ggX0_finds_X0_hiddenDreams : GoodIn wsX0_finds wsX0_hiddenDreams := goodIn_r _ [6, 7, 8, 9, 10, 11, 12, 13, 14, 15, 16, 17, 18, 19, 20, 21, 22, 23] (by decide +kernel) (by decide +kernel)
set_option maxRecDepth 20000 in
theorem gX0_finds_X0_hiddenDreams : GoodIn wsX0_finds (wsV RX0 62 RX0 yX0_hiddenDreams wsX0_hiddenDreams) := goodIn_app (goodIn_of _ (by decide +kernel)) ggX0_finds_X0_hiddenDreams
theorem dX0_finds_0 : decode cX0_finds 0 = .ok (.aload_n 0, 1) := by decide +kernel
theorem dX0_finds_1 : decode cX0_finds 1 = .ok (.iload_n 2, 1) := by decide +kernel
theorem dX0_finds_2 : decode cX0_finds 2 = .ok (.invokevirtual 62, 3) := by decide +kernel
theorem dX0_finds_5 : decode cX0_finds 5 = .ok (.istore_n 3, 1) := by decide +kernel
theorem dX0_finds_6 : decode cX0_finds 6 = .ok (.iload_n 3, 1) := by decide +kernel
theorem dX0_finds_7 : decode cX0_finds 7 = .ok (.ifCond .le 20, 3) := by decide +kernel
theorem dX0_finds_10 : decode cX0_finds 10 = .ok (.iload_n 3, 1) := by decide +kernel
theorem dX0_finds_11 : decode cX0_finds 11 = .ok (.aload_n 0, 1) := by decide +kernel
theorem dX0_finds_12 : decode cX0_finds 12 = .ok (.getfield 49, 3) := by decide +kernel
theorem dX0_finds_15 : decode cX0_finds 15 = .ok (.iload_n 1, 1) := by decide +kernel
theorem dX0_finds_16 : decode cX0_finds 16 = .ok (.iaload, 1) := by decide +kernel
theorem dX0_finds_17 : decode cX0_finds 17 = .ok (.iadd, 1) := by decide +kernel
theorem dX0_finds_18 : decode cX0_finds 18 = .ok (.bipush 10, 2) := by decide +kernel
theorem dX0_finds_20 : decode cX0_finds 20 = .ok (.if_icmp .lt 7, 3) := by decide +kernel
theorem dX0_finds_23 : decode cX0_finds 23 = .ok (.iconst 1, 1) := by decide +kernel
theorem dX0_finds_24 : decode cX0_finds 24 = .ok (.goto 4, 3) := by decide +kernel
theorem dX0_finds_27 : decode cX0_finds 27 = .ok (.iconst 0, 1) := by decide +kernel
theorem dX0_finds_28 : decode cX0_finds 28 = .ok (.ireturn, 1) := by decide +kernel
set_option maxRecDepth 20000 in
theorem ggX0_goOneMinute_X0_advanceTransits : GoodIn wsX0_goOneMinute wsX0_advanceTransits := goodIn_r _ [8, 9, 10, 11, 12, 3, 64, 65, 66, 67, 68, 69, 70, 71, 72, 73, 74, 75, 76, 77, 78] (by decide +kernel) (by decide +kernel)
set_option maxRecDepth 20000 in
theorem gX0_goOneMinute_X0_advanceTransits : GoodIn wsX0_goOneMinute (wsV RX0 73 RX0 yX0_advanceTransits wsX0_advanceTransits) := goodIn_app (goodIn_of _ (by decide +kernel)) ggX0_goOneMinute_X0_advanceTransits
set_option maxRecDepth 20000 in
theorem ggX0_goOneMinute_X0_shortenLullabies : GoodIn wsX0_goOneMinute wsX0_shortenLullabies := goodIn_r _ [16, 9, 10, 17, 18, 64, 65, 66, 67, 68, 69, 70, 71, 72, 73, 74, 75, 76, 77, 78] (by decide +kernel) (by decide +kernel)
set_option maxRecDepth 20000 in
theorem gX0_goOneMinute_X0_shortenLullabies : GoodIn wsX0_goOneMinute (wsV RX0 76 RX0 yX0_shortenLullabies wsX0_shortenLullabies) := goodIn_app (goodIn_of _ (by decide +kernel)) ggX0_goOneMinute_X0_shortenLullabies
set_option maxRecDepth 20000 in
theorem ggX0_goOneMinute_X0_isTraveller : GoodIn wsX0_goOneMinute wsX0_isTraveller := goodIn_r _ [22, 9, 64, 65, 66, 67, 68, 69, 70, 71, 72, 73, 74, 75, 76, 77, 78] (by decide +kernel) (by decide +kernel)
set_option maxRecDepth 20000 in
theorem gX0_goOneMinute_X0_isTraveller : GoodIn wsX0_goOneMinute (wsV RX0 79 RX0 yX0_isTraveller wsX0_isTraveller) := goodIn_app (goodIn_of _ (by decide +kernel)) ggX0_goOneMinute_X0_isTraveller
set_option maxRecDepth 20000 in
theorem ggX0_goOneMinute_X0_searchOn : GoodIn wsX0_goOneMinute wsX0_searchOn := goodIn_r _ [26, 27, 28, 10, 11, 2, 29, 30, 31, 32, 33, 34, 35, 36, 7, 37, 38, 39, 40, 41, 42, 43, 64, 65, 66, 67, 68, 69, 70, 71, 72, 73, 74, 75, 76, 77, 78] (by decide +kernel) (by decide +kernel)
set_option maxRecDepth 20000 in
theorem gX0_goOneMinute_X0_searchOn : GoodIn wsX0_goOneMinute (wsV RX0 83 RX0 yX0_searchOn wsX0_searchOn) := goodIn_app (goodIn_of _ (by decide +kernel)) ggX0_goOneMinute_X0_searchOn
set_option maxRecDepth 20000 in
theorem ggX0_goOneMinute_X0_beginSearchOrRest : GoodIn wsX0_goOneMinute wsX0_beginSearchOrRest := goodIn_r _ [47, 2, 27, 10, 29, 48, 49, 32, 50, 51, 52, 53, 7, 54, 9, 19, 20, 21, 22, 55, 56, 57, 58, 43, 59, 60, 61, 62, 63, 64, 65, 66, 67, 68, 69, 70, 71, 72, 73, 74, 75, 76, 77, 78] (by decide +kernel) (by decide +kernel)
set_option maxRecDepth 20000 in
theorem gX0_goOneMinute_X0_beginSearchOrRest : GoodIn wsX0_goOneMinute (wsV RX0 87 RX0 yX0_beginSearchOrRest wsX0_beginSearchOrRest) := goodIn_app (goodIn_of _ (by decide +kernel)) ggX0_goOneMinute_X0_beginSearchOrRest
theorem dX0_goOneMinute_0 : decode cX0_goOneMinute 0 = .ok (.aload_n 0, 1) := by decide +kernel
theorem dX0_goOneMinute_1 : decode cX0_goOneMinute 1 = .ok (.invokevirtual 73, 3) := by decide +kernel
theorem dX0_goOneMinute_4 : decode cX0_goOneMinute 4 = .ok (.aload_n 0, 1) := by decide +kernel
theorem dX0_goOneMinute_5 : decode cX0_goOneMinute 5 = .ok (.invokevirtual 76, 3) := by decide +kernel
theorem dX0_goOneMinute_8 : decode cX0_goOneMinute 8 = .ok (.iconst 0, 1) := by decide +kernel
theorem dX0_goOneMinute_9 : decode cX0_goOneMinute 9 = .ok (.istore_n 1, 1) := by decide +kernel
theorem dX0_goOneMinute_10 : decode cX0_goOneMinute 10 = .ok (.iload_n 1, 1) := by decide +kernel
theorem dX0_goOneMinute_11 : decode cX0_goOneMinute 11 = .ok (.aload_n 0, 1) := by decide +kernel
theorem dX0_goOneMinute_12 : decode cX0_goOneMinute 12 = .ok (.getfield 46, 3) := by decide +kernel
theorem dX0_goOneMinute_15 : decode cX0_goOneMinute 15 = .ok (.if_icmp .ge 38, 3) := by decide +kernel
theorem dX0_goOneMinute_18 : decode cX0_goOneMinute 18 = .ok (.aload_n 0, 1) := by decide +kernel
theorem dX0_goOneMinute_19 : decode cX0_goOneMinute 19 = .ok (.getfield 52, 3) := by decide +kernel
theorem dX0_goOneMinute_22 : decode cX0_goOneMinute 22 = .ok (.iload_n 1, 1) := by decide +kernel
theorem dX0_goOneMinute_23 : decode cX0_goOneMinute 23 = .ok (.iaload, 1) := by decide +kernel
theorem dX0_goOneMinute_24 : decode cX0_goOneMinute 24 = .ok (.istore_n 2, 1) := by decide +kernel
theorem dX0_goOneMinute_25 : decode cX0_goOneMinute 25 = .ok (.aload_n 0, 1) := by decide +kernel
theorem dX0_goOneMinute_26 : decode cX0_goOneMinute 26 = .ok (.iload_n 2, 1) := by decide +kernel
theorem dX0_goOneMinute_27 : decode cX0_goOneMinute 27 = .ok (.invokevirtual 79, 3) := by decide +kernel
theorem dX0_goOneMinute_30 : decode cX0_goOneMinute 30 = .ok (.ifCond .eq 12, 3) := by decide +kernel
theorem dX0_goOneMinute_33 : decode cX0_goOneMinute 33 = .ok (.aload_n 0, 1) := by decide +kernel
theorem dX0_goOneMinute_34 : decode cX0_goOneMinute 34 = .ok (.iload_n 1, 1) := by decide +kernel
theorem dX0_goOneMinute_35 : decode cX0_goOneMinute 35 = .ok (.iload_n 2, 1) := by decide +kernel
theorem dX0_goOneMinute_36 : decode cX0_goOneMinute 36 = .ok (.invokevirtual 83, 3) := by decide +kernel
theorem dX0_goOneMinute_39 : decode cX0_goOneMinute 39 = .ok (.goto 8, 3) := by decide +kernel
theorem dX0_goOneMinute_42 : decode cX0_goOneMinute 42 = .ok (.aload_n 0, 1) := by decide +kernel
theorem dX0_goOneMinute_43 : decode cX0_goOneMinute 43 = .ok (.iload_n 1, 1) := by decide +kernel
theorem dX0_goOneMinute_44 : decode cX0_goOneMinute 44 = .ok (.invokevirtual 87, 3) := by decide +kernel
theorem dX0_goOneMinute_47 : decode cX0_goOneMinute 47 = .ok (.iinc 1 1, 3) := by decide +kernel
theorem dX0_goOneMinute_50 : decode cX0_goOneMinute 50 = .ok (.goto (-40), 3) := by decide +kernel
theorem dX0_goOneMinute_53 : decode cX0_goOneMinute 53 = .ok (.aload_n 0, 1) := by decide +kernel
theorem dX0_goOneMinute_54 : decode cX0_goOneMinute 54 = .ok (.dup, 1) := by decide +kernel
theorem dX0_goOneMinute_55 : decode cX0_goOneMinute 55 = .ok (.getfield 9, 3) := by decide +kernel
theorem dX0_goOneMinute_58 : decode cX0_goOneMinute 58 = .ok (.iconst 1, 1) := by decide +kernel
theorem dX0_goOneMinute_59 : decode cX0_goOneMinute 59 = .ok (.iadd, 1) := by decide +kernel
theorem dX0_goOneMinute_60 : decode cX0_goOneMinute 60 = .ok (.putfield 9, 3) := by decide +kernel
theorem dX0_goOneMinute_63 : decode cX0_goOneMinute 63 = .ok (.return_, 1) := by decide +kernel
theorem dX0_advanceTransits_0 : decode cX0_advanceTransits 0 = .ok (.iconst 0, 1) := by decide +kernel
theorem dX0_advanceTransits_1 : decode cX0_advanceTransits 1 = .ok (.istore_n 1, 1) := by decide +kernel
theorem dX0_advanceTransits_2 : decode cX0_advanceTransits 2 = .ok (.iload_n 1, 1) := by decide +kernel
theorem dX0_advanceTransits_3 : decode cX0_advanceTransits 3 = .ok (.aload_n 0, 1) := by decide +kernel
theorem dX0_advanceTransits_4 : decode cX0_advanceTransits 4 = .ok (.getfield 21, 3) := by decide +kernel
theorem dX0_advanceTransits_7 : decode cX0_advanceTransits 7 = .ok (.if_icmp .ge 57, 3) := by decide +kernel
theorem dX0_advanceTransits_10 : decode cX0_advanceTransits 10 = .ok (.aload_n 0, 1) := by decide +kernel
theorem dX0_advanceTransits_11 : decode cX0_advanceTransits 11 = .ok (.getfield 37, 3) := by decide +kernel
theorem dX0_advanceTransits_14 : decode cX0_advanceTransits 14 = .ok (.iload_n 1, 1) := by decide +kernel
theorem dX0_advanceTransits_15 : decode cX0_advanceTransits 15 = .ok (.iaload, 1) := by decide +kernel
theorem dX0_advanceTransits_16 : decode cX0_advanceTransits 16 = .ok (.iconst 2, 1) := by decide +kernel
theorem dX0_advanceTransits_17 : decode cX0_advanceTransits 17 = .ok (.if_icmp .ne 41, 3) := by decide +kernel
theorem dX0_advanceTransits_20 : decode cX0_advanceTransits 20 = .ok (.aload_n 0, 1) := by decide +kernel
theorem dX0_advanceTransits_21 : decode cX0_advanceTransits 21 = .ok (.getfield 40, 3) := by decide +kernel
theorem dX0_advanceTransits_24 : decode cX0_advanceTransits 24 = .ok (.iload_n 1, 1) := by decide +kernel
theorem dX0_advanceTransits_25 : decode cX0_advanceTransits 25 = .ok (.dup2, 1) := by decide +kernel
theorem dX0_advanceTransits_26 : decode cX0_advanceTransits 26 = .ok (.iaload, 1) := by decide +kernel
theorem dX0_advanceTransits_27 : decode cX0_advanceTransits 27 = .ok (.iconst 1, 1) := by decide +kernel
theorem dX0_advanceTransits_28 : decode cX0_advanceTransits 28 = .ok (.isub, 1) := by decide +kernel
theorem dX0_advanceTransits_29 : decode cX0_advanceTransits 29 = .ok (.iastore, 1) := by decide +kernel
theorem dX0_advanceTransits_30 : decode cX0_advanceTransits 30 = .ok (.aload_n 0, 1) := by decide +kernel
theorem dX0_advanceTransits_31 : decode cX0_advanceTransits 31 = .ok (.getfield 40, 3) := by decide +kernel
theorem dX0_advanceTransits_34 : decode cX0_advanceTransits 34 = .ok (.iload_n 1, 1) := by decide +kernel
theorem dX0_advanceTransits_35 : decode cX0_advanceTransits 35 = .ok (.iaload, 1) := by decide +kernel
theorem dX0_advanceTransits_36 : decode cX0_advanceTransits 36 = .ok (.ifCond .gt 22, 3) := by decide +kernel
theorem dX0_advanceTransits_39 : decode cX0_advanceTransits 39 = .ok (.aload_n 0, 1) := by decide +kernel
theorem dX0_advanceTransits_40 : decode cX0_advanceTransits 40 = .ok (.getfield 37, 3) := by decide +kernel
theorem dX0_advanceTransits_43 : decode cX0_advanceTransits 43 = .ok (.iload_n 1, 1) := by decide +kernel
theorem dX0_advanceTransits_44 : decode cX0_advanceTransits 44 = .ok (.iconst 3, 1) := by decide +kernel
theorem dX0_advanceTransits_45 : decode cX0_advanceTransits 45 = .ok (.iastore, 1) := by decide +kernel
theorem dX0_advanceTransits_46 : decode cX0_advanceTransits 46 = .ok (.aload_n 0, 1) := by decide +kernel
theorem dX0_advanceTransits_47 : decode cX0_advanceTransits 47 = .ok (.getfield 43, 3) := by decide +kernel
theorem dX0_advanceTransits_50 : decode cX0_advanceTransits 50 = .ok (.iload_n 1, 1) := by decide +kernel
theorem dX0_advanceTransits_51 : decode cX0_advanceTransits 51 = .ok (.aload_n 0, 1) := by decide +kernel
theorem dX0_advanceTransits_52 : decode cX0_advanceTransits 52 = .ok (.getfield 9, 3) := by decide +kernel
theorem dX0_advanceTransits_55 : decode cX0_advanceTransits 55 = .ok (.iconst 1, 1) := by decide +kernel
theorem dX0_advanceTransits_56 : decode cX0_advanceTransits 56 = .ok (.iadd, 1) := by decide +kernel
theorem dX0_advanceTransits_57 : decode cX0_advanceTransits 57 = .ok (.iastore, 1) := by decide +kernel
theorem dX0_advanceTransits_58 : decode cX0_advanceTransits 58 = .ok (.iinc 1 1, 3) := by decide +kernel
theorem dX0_advanceTransits_61 : decode cX0_advanceTransits 61 = .ok (.goto (-59), 3) := by decide +kernel
theorem dX0_advanceTransits_64 : decode cX0_advanceTransits 64 = .ok (.return_, 1) := by decide +kernel
theorem dX0_shortenLullabies_0 : decode cX0_shortenLullabies 0 = .ok (.iconst 0, 1) := by decide +kernel
theorem dX0_shortenLullabies_1 : decode cX0_shortenLullabies 1 = .ok (.istore_n 1, 1) := by decide +kernel
theorem dX0_shortenLullabies_2 : decode cX0_shortenLullabies 2 = .ok (.iload_n 1, 1) := by decide +kernel
theorem dX0_shortenLullabies_3 : decode cX0_shortenLullabies 3 = .ok (.aload_n 0, 1) := by decide +kernel
theorem dX0_shortenLullabies_4 : decode cX0_shortenLullabies 4 = .ok (.getfield 21, 3) := by decide +kernel
theorem dX0_shortenLullabies_7 : decode cX0_shortenLullabies 7 = .ok (.if_icmp .ge 54, 3) := by decide +kernel
theorem dX0_shortenLullabies_10 : decode cX0_shortenLullabies 10 = .ok (.aload_n 0, 1) := by decide +kernel
theorem dX0_shortenLullabies_11 : decode cX0_shortenLullabies 11 = .ok (.getfield 37, 3) := by decide +kernel
theorem dX0_shortenLullabies_14 : decode cX0_shortenLullabies 14 = .ok (.iload_n 1, 1) := by decide +kernel
theorem dX0_shortenLullabies_15 : decode cX0_shortenLullabies 15 = .ok (.iaload, 1) := by decide +kernel
theorem dX0_shortenLullabies_16 : decode cX0_shortenLullabies 16 = .ok (.ifCond .ne 39, 3) := by decide +kernel
theorem dX0_shortenLullabies_19 : decode cX0_shortenLullabies 19 = .ok (.aload_n 0, 1) := by decide +kernel
theorem dX0_shortenLullabies_20 : decode cX0_shortenLullabies 20 = .ok (.getfield 34, 3) := by decide +kernel
theorem dX0_shortenLullabies_23 : decode cX0_shortenLullabies 23 = .ok (.iload_n 1, 1) := by decide +kernel
theorem dX0_shortenLullabies_24 : decode cX0_shortenLullabies 24 = .ok (.dup2, 1) := by decide +kernel
theorem dX0_shortenLullabies_25 : decode cX0_shortenLullabies 25 = .ok (.iaload, 1) := by decide +kernel
theorem dX0_shortenLullabies_26 : decode cX0_shortenLullabies 26 = .ok (.iconst 1, 1) := by decide +kernel
theorem dX0_shortenLullabies_27 : decode cX0_shortenLullabies 27 = .ok (.isub, 1) := by decide +kernel
theorem dX0_shortenLullabies_28 : decode cX0_shortenLullabies 28 = .ok (.iastore, 1) := by decide +kernel
theorem dX0_shortenLullabies_29 : decode cX0_shortenLullabies 29 = .ok (.aload_n 0, 1) := by decide +kernel
theorem dX0_shortenLullabies_30 : decode cX0_shortenLullabies 30 = .ok (.getfield 34, 3) := by decide +kernel
theorem dX0_shortenLullabies_33 : decode cX0_shortenLullabies 33 = .ok (.iload_n 1, 1) := by decide +kernel
theorem dX0_shortenLullabies_34 : decode cX0_shortenLullabies 34 = .ok (.iaload, 1) := by decide +kernel
theorem dX0_shortenLullabies_35 : decode cX0_shortenLullabies 35 = .ok (.ifCond .gt 20, 3) := by decide +kernel
theorem dX0_shortenLullabies_38 : decode cX0_shortenLullabies 38 = .ok (.aload_n 0, 1) := by decide +kernel
theorem dX0_shortenLullabies_39 : decode cX0_shortenLullabies 39 = .ok (.getfield 37, 3) := by decide +kernel
theorem dX0_shortenLullabies_42 : decode cX0_shortenLullabies 42 = .ok (.iload_n 1, 1) := by decide +kernel
theorem dX0_shortenLullabies_43 : decode cX0_shortenLullabies 43 = .ok (.iconst 4, 1) := by decide +kernel
theorem dX0_shortenLullabies_44 : decode cX0_shortenLullabies 44 = .ok (.iastore, 1) := by decide +kernel
theorem dX0_shortenLullabies_45 : decode cX0_shortenLullabies 45 = .ok (.aload_n 0, 1) := by decide +kernel
theorem dX0_shortenLullabies_46 : decode cX0_shortenLullabies 46 = .ok (.dup, 1) := by decide +kernel
theorem dX0_shortenLullabies_47 : decode cX0_shortenLullabies 47 = .ok (.getfield 15, 3) := by decide +kernel
theorem dX0_shortenLullabies_50 : decode cX0_shortenLullabies 50 = .ok (.iconst 1, 1) := by decide +kernel
theorem dX0_shortenLullabies_51 : decode cX0_shortenLullabies 51 = .ok (.iadd, 1) := by decide +kernel
theorem dX0_shortenLullabies_52 : decode cX0_shortenLullabies 52 = .ok (.putfield 15, 3) := by decide +kernel
theorem dX0_shortenLullabies_55 : decode cX0_shortenLullabies 55 = .ok (.iinc 1 1, 3) := by decide +kernel
theorem dX0_shortenLullabies_58 : decode cX0_shortenLullabies 58 = .ok (.goto (-56), 3) := by decide +kernel
theorem dX0_shortenLullabies_61 : decode cX0_shortenLullabies 61 = .ok (.return_, 1) := by decide +kernel
set_option maxRecDepth 20000 in
theorem ggX0_beginSearchOrRest_X0_firstWaiting : GoodIn wsX0_beginSearchOrRest wsX0_firstWaiting := goodIn_r _ [13, 14, 3, 29, 30, 31, 32, 33, 34, 35, 36, 37, 38, 39, 40, 41, 42, 43] (by decide +kernel) (by decide +kernel)
set_option maxRecDepth 20000 in
theorem gX0_beginSearchOrRest_X0_firstWaiting : GoodIn wsX0_beginSearchOrRest (wsV RX0 91 RX0 yX0_firstWaiting wsX0_firstWaiting) := goodIn_app (goodIn_of _ (by decide +kernel)) ggX0_beginSearchOrRest_X0_firstWaiting
set_option maxRecDepth 20000 in
theorem ggX0_beginSearchOrRest_X0_isTraveller : GoodIn wsX0_beginSearchOrRest wsX0_isTraveller := goodIn_r _ [18, 14, 29, 30, 31, 32, 33, 34, 35, 36, 37, 38, 39, 40, 41, 42, 43] (by decide +kernel) (by decide +kernel)
set_option maxRecDepth 20000 in
theorem gX0_beginSearchOrRest_X0_isTraveller : GoodIn wsX0_beginSearchOrRest (wsV RX0 79 RX0 yX0_isTraveller wsX0_isTraveller) := goodIn_app (goodIn_of _ (by decide +kernel)) ggX0_beginSearchOrRest_X0_isTraveller
set_option maxRecDepth 20000 in
theorem ggX0_beginSearchOrRest_X0_searchMinutes : GoodIn wsX0_beginSearchOrRest wsX0_searchMinutes := goodIn_r _ [22, 23, 24, 25, 26, 12, 27, 14, 3, 28, 29, 30, 31, 32, 33, 34, 35, 36, 37, 38, 39, 40, 41, 42, 43] (by decide +kernel) (by decide +kernel)
set_option maxRecDepth 20000 in
theorem gX0_beginSearchOrRest_X0_searchMinutes : GoodIn wsX0_beginSearchOrRest (wsV RX0 94 RX0 yX0_searchMinutes wsX0_searchMinutes) := goodIn_app (goodIn_of _ (by decide +kernel)) ggX0_beginSearchOrRest_X0_searchMinutes
theorem dX0_beginSearchOrRest_0 : decode cX0_beginSearchOrRest 0 = .ok (.aload_n 0, 1) := by decide +kernel
theorem dX0_beginSearchOrRest_1 : decode cX0_beginSearchOrRest 1 = .ok (.invokevirtual 91, 3) := by decide +kernel
theorem dX0_beginSearchOrRest_4 : decode cX0_beginSearchOrRest 4 = .ok (.istore_n 2, 1) := by decide +kernel
theorem dX0_beginSearchOrRest_5 : decode cX0_beginSearchOrRest 5 = .ok (.aload_n 0, 1) := by decide +kernel
theorem dX0_beginSearchOrRest_6 : decode cX0_beginSearchOrRest 6 = .ok (.iload_n 2, 1) := by decide +kernel
theorem dX0_beginSearchOrRest_7 : decode cX0_beginSearchOrRest 7 = .ok (.invokevirtual 79, 3) := by decide +kernel
theorem dX0_beginSearchOrRest_10 : decode cX0_beginSearchOrRest 10 = .ok (.ifCond .eq 31, 3) := by decide +kernel
theorem dX0_beginSearchOrRest_13 : decode cX0_beginSearchOrRest 13 = .ok (.aload_n 0, 1) := by decide +kernel
theorem dX0_beginSearchOrRest_14 : decode cX0_beginSearchOrRest 14 = .ok (.getfield 52, 3) := by decide +kernel
theorem dX0_beginSearchOrRest_17 : decode cX0_beginSearchOrRest 17 = .ok (.iload_n 1, 1) := by decide +kernel
theorem dX0_beginSearchOrRest_18 : decode cX0_beginSearchOrRest 18 = .ok (.iload_n 2, 1) := by decide +kernel
theorem dX0_beginSearchOrRest_19 : decode cX0_beginSearchOrRest 19 = .ok (.iastore, 1) := by decide +kernel
theorem dX0_beginSearchOrRest_20 : decode cX0_beginSearchOrRest 20 = .ok (.aload_n 0, 1) := by decide +kernel
theorem dX0_beginSearchOrRest_21 : decode cX0_beginSearchOrRest 21 = .ok (.getfield 55, 3) := by decide +kernel
theorem dX0_beginSearchOrRest_24 : decode cX0_beginSearchOrRest 24 = .ok (.iload_n 1, 1) := by decide +kernel
theorem dX0_beginSearchOrRest_25 : decode cX0_beginSearchOrRest 25 = .ok (.aload_n 0, 1) := by decide +kernel
theorem dX0_beginSearchOrRest_26 : decode cX0_beginSearchOrRest 26 = .ok (.iload_n 2, 1) := by decide +kernel
theorem dX0_beginSearchOrRest_27 : decode cX0_beginSearchOrRest 27 = .ok (.invokevirtual 94, 3) := by decide +kernel
theorem dX0_beginSearchOrRest_30 : decode cX0_beginSearchOrRest 30 = .ok (.iastore, 1) := by decide +kernel
theorem dX0_beginSearchOrRest_31 : decode cX0_beginSearchOrRest 31 = .ok (.aload_n 0, 1) := by decide +kernel
theorem dX0_beginSearchOrRest_32 : decode cX0_beginSearchOrRest 32 = .ok (.getfield 37, 3) := by decide +kernel
theorem dX0_beginSearchOrRest_35 : decode cX0_beginSearchOrRest 35 = .ok (.iload_n 2, 1) := by decide +kernel
theorem dX0_beginSearchOrRest_36 : decode cX0_beginSearchOrRest 36 = .ok (.iconst 1, 1) := by decide +kernel
theorem dX0_beginSearchOrRest_37 : decode cX0_beginSearchOrRest 37 = .ok (.iastore, 1) := by decide +kernel
theorem dX0_beginSearchOrRest_38 : decode cX0_beginSearchOrRest 38 = .ok (.goto 22, 3) := by decide +kernel
theorem dX0_beginSearchOrRest_41 : decode cX0_beginSearchOrRest 41 = .ok (.aload_n 0, 1) := by decide +kernel
theorem dX0_beginSearchOrRest_42 : decode cX0_beginSearchOrRest 42 = .ok (.getfield 49, 3) := by decide +kernel
theorem dX0_beginSearchOrRest_45 : decode cX0_beginSearchOrRest 45 = .ok (.iload_n 1, 1) := by decide +kernel
theorem dX0_beginSearchOrRest_46 : decode cX0_beginSearchOrRest 46 = .ok (.aload_n 0, 1) := by decide +kernel
theorem dX0_beginSearchOrRest_47 : decode cX0_beginSearchOrRest 47 = .ok (.getfield 49, 3) := by decide +kernel
theorem dX0_beginSearchOrRest_50 : decode cX0_beginSearchOrRest 50 = .ok (.iload_n 1, 1) := by decide +kernel
theorem dX0_beginSearchOrRest_51 : decode cX0_beginSearchOrRest 51 = .ok (.iaload, 1) := by decide +kernel
theorem dX0_beginSearchOrRest_52 : decode cX0_beginSearchOrRest 52 = .ok (.iconst 1, 1) := by decide +kernel
theorem dX0_beginSearchOrRest_53 : decode cX0_beginSearchOrRest 53 = .ok (.iadd, 1) := by decide +kernel
theorem dX0_beginSearchOrRest_54 : decode cX0_beginSearchOrRest 54 = .ok (.bipush 9, 2) := by decide +kernel
theorem dX0_beginSearchOrRest_56 : decode cX0_beginSearchOrRest 56 = .ok (.invokestatic 97, 3) := by decide +kernel
theorem dX0_beginSearchOrRest_59 : decode cX0_beginSearchOrRest 59 = .ok (.iastore, 1) := by decide +kernel
theorem dX0_beginSearchOrRest_60 : decode cX0_beginSearchOrRest 60 = .ok (.return_, 1) := by decide +kernel
set_option maxRecDepth 20000 in
theorem ggX0_searchOn_X0_finds : GoodIn wsX0_searchOn wsX0_finds := goodIn_r _ [15, 6, 16, 17, 18, 14, 19, 20, 21, 22, 23, 24, 25, 26, 27, 28, 29, 30, 31, 32, 33, 34, 35, 36] (by decide +kernel) (by decide +kernel)
set_option maxRecDepth 20000 in
theorem gX0_searchOn_X0_finds : GoodIn wsX0_searchOn (wsV RX0 103 RX0 yX0_finds wsX0_finds) := goodIn_app (goodIn_of _ (by decide +kernel)) ggX0_searchOn_X0_finds
set_option maxRecDepth 20000 in
theorem ggX0_searchOn_X0_hiddenDreams : GoodIn wsX0_searchOn wsX0_hiddenDreams := goodIn_r _ [19, 20, 21, 22, 23, 24, 25, 26, 27, 28, 29, 30, 31, 32, 33, 34, 35, 36] (by decide +kernel) (by decide +kernel)
set_option maxRecDepth 20000 in
theorem gX0_searchOn_X0_hiddenDreams : GoodIn wsX0_searchOn (wsV RX0 62 RX0 yX0_hiddenDreams wsX0_hiddenDreams) := goodIn_app (goodIn_of _ (by decide +kernel)) ggX0_searchOn_X0_hiddenDreams
theorem dX0_searchOn_0 : decode cX0_searchOn 0 = .ok (.aload_n 0, 1) := by decide +kernel
theorem dX0_searchOn_1 : decode cX0_searchOn 1 = .ok (.getfield 55, 3) := by decide +kernel
theorem dX0_searchOn_4 : decode cX0_searchOn 4 = .ok (.iload_n 1, 1) := by decide +kernel
theorem dX0_searchOn_5 : decode cX0_searchOn 5 = .ok (.dup2, 1) := by decide +kernel
theorem dX0_searchOn_6 : decode cX0_searchOn 6 = .ok (.iaload, 1) := by decide +kernel
theorem dX0_searchOn_7 : decode cX0_searchOn 7 = .ok (.iconst 1, 1) := by decide +kernel
theorem dX0_searchOn_8 : decode cX0_searchOn 8 = .ok (.isub, 1) := by decide +kernel
theorem dX0_searchOn_9 : decode cX0_searchOn 9 = .ok (.iastore, 1) := by decide +kernel
theorem dX0_searchOn_10 : decode cX0_searchOn 10 = .ok (.aload_n 0, 1) := by decide +kernel
theorem dX0_searchOn_11 : decode cX0_searchOn 11 = .ok (.getfield 55, 3) := by decide +kernel
theorem dX0_searchOn_14 : decode cX0_searchOn 14 = .ok (.iload_n 1, 1) := by decide +kernel
theorem dX0_searchOn_15 : decode cX0_searchOn 15 = .ok (.iaload, 1) := by decide +kernel
theorem dX0_searchOn_16 : decode cX0_searchOn 16 = .ok (.ifCond .le 4, 3) := by decide +kernel
theorem dX0_searchOn_19 : decode cX0_searchOn 19 = .ok (.return_, 1) := by decide +kernel
theorem dX0_searchOn_20 : decode cX0_searchOn 20 = .ok (.aload_n 0, 1) := by decide +kernel
theorem dX0_searchOn_21 : decode cX0_searchOn 21 = .ok (.iload_n 1, 1) := by decide +kernel
theorem dX0_searchOn_22 : decode cX0_searchOn 22 = .ok (.iload_n 2, 1) := by decide +kernel
theorem dX0_searchOn_23 : decode cX0_searchOn 23 = .ok (.invokevirtual 103, 3) := by decide +kernel
theorem dX0_searchOn_26 : decode cX0_searchOn 26 = .ok (.ifCond .eq 29, 3) := by decide +kernel
theorem dX0_searchOn_29 : decode cX0_searchOn 29 = .ok (.aload_n 0, 1) := by decide +kernel
theorem dX0_searchOn_30 : decode cX0_searchOn 30 = .ok (.dup, 1) := by decide +kernel
theorem dX0_searchOn_31 : decode cX0_searchOn 31 = .ok (.getfield 18, 3) := by decide +kernel
theorem dX0_searchOn_34 : decode cX0_searchOn 34 = .ok (.iconst 3, 1) := by decide +kernel
theorem dX0_searchOn_35 : decode cX0_searchOn 35 = .ok (.aload_n 0, 1) := by decide +kernel
theorem dX0_searchOn_36 : decode cX0_searchOn 36 = .ok (.iload_n 2, 1) := by decide +kernel
theorem dX0_searchOn_37 : decode cX0_searchOn 37 = .ok (.invokevirtual 62, 3) := by decide +kernel
theorem dX0_searchOn_40 : decode cX0_searchOn 40 = .ok (.imul, 1) := by decide +kernel
theorem dX0_searchOn_41 : decode cX0_searchOn 41 = .ok (.iadd, 1) := by decide +kernel
theorem dX0_searchOn_42 : decode cX0_searchOn 42 = .ok (.putfield 18, 3) := by decide +kernel
theorem dX0_searchOn_45 : decode cX0_searchOn 45 = .ok (.aload_n 0, 1) := by decide +kernel
theorem dX0_searchOn_46 : decode cX0_searchOn 46 = .ok (.getfield 37, 3) := by decide +kernel
theorem dX0_searchOn_49 : decode cX0_searchOn 49 = .ok (.iload_n 2, 1) := by decide +kernel
theorem dX0_searchOn_50 : decode cX0_searchOn 50 = .ok (.iconst 4, 1) := by decide +kernel
theorem dX0_searchOn_51 : decode cX0_searchOn 51 = .ok (.iastore, 1) := by decide +kernel
theorem dX0_searchOn_52 : decode cX0_searchOn 52 = .ok (.goto 17, 3) := by decide +kernel
theorem dX0_searchOn_55 : decode cX0_searchOn 55 = .ok (.aload_n 0, 1) := by decide +kernel
theorem dX0_searchOn_56 : decode cX0_searchOn 56 = .ok (.getfield 37, 3) := by decide +kernel
theorem dX0_searchOn_59 : decode cX0_searchOn 59 = .ok (.iload_n 2, 1) := by decide +kernel
theorem dX0_searchOn_60 : decode cX0_searchOn 60 = .ok (.iconst 2, 1) := by decide +kernel
theorem dX0_searchOn_61 : decode cX0_searchOn 61 = .ok (.iastore, 1) := by decide +kernel
theorem dX0_searchOn_62 : decode cX0_searchOn 62 = .ok (.aload_n 0, 1) := by decide +kernel
theorem dX0_searchOn_63 : decode cX0_searchOn 63 = .ok (.getfield 40, 3) := by decide +kernel
theorem dX0_searchOn_66 : decode cX0_searchOn 66 = .ok (.iload_n 2, 1) := by decide +kernel
theorem dX0_searchOn_67 : decode cX0_searchOn 67 = .ok (.iconst 5, 1) := by decide +kernel
theorem dX0_searchOn_68 : decode cX0_searchOn 68 = .ok (.iastore, 1) := by decide +kernel
theorem dX0_searchOn_69 : decode cX0_searchOn 69 = .ok (.aload_n 0, 1) := by decide +kernel
theorem dX0_searchOn_70 : decode cX0_searchOn 70 = .ok (.getfield 52, 3) := by decide +kernel
theorem dX0_searchOn_73 : decode cX0_searchOn 73 = .ok (.iload_n 1, 1) := by decide +kernel
theorem dX0_searchOn_74 : decode cX0_searchOn 74 = .ok (.iconst (-1), 1) := by decide +kernel
theorem dX0_searchOn_75 : decode cX0_searchOn 75 = .ok (.iastore, 1) := by decide +kernel
theorem dX0_searchOn_76 : decode cX0_searchOn 76 = .ok (.aload_n 0, 1) := by decide +kernel
theorem dX0_searchOn_77 : decode cX0_searchOn 77 = .ok (.getfield 49, 3) := by decide +kernel
theorem dX0_searchOn_80 : decode cX0_searchOn 80 = .ok (.iload_n 1, 1) := by decide +kernel
theorem dX0_searchOn_81 : decode cX0_searchOn 81 = .ok (.aload_n 0, 1) := by decide +kernel
theorem dX0_searchOn_82 : decode cX0_searchOn 82 = .ok (.getfield 49, 3) := by decide +kernel
theorem dX0_searchOn_85 : decode cX0_searchOn 85 = .ok (.iload_n 1, 1) := by decide +kernel
theorem dX0_searchOn_86 : decode cX0_searchOn 86 = .ok (.iaload, 1) := by decide +kernel
theorem dX0_searchOn_87 : decode cX0_searchOn 87 = .ok (.iconst 1, 1) := by decide +kernel
theorem dX0_searchOn_88 : decode cX0_searchOn 88 = .ok (.isub, 1) := by decide +kernel
theorem dX0_searchOn_89 : decode cX0_searchOn 89 = .ok (.iconst 0, 1) := by decide +kernel
theorem dX0_searchOn_90 : decode cX0_searchOn 90 = .ok (.invokestatic 107, 3) := by decide +kernel
theorem dX0_searchOn_93 : decode cX0_searchOn 93 = .ok (.iastore, 1) := by decide +kernel
theorem dX0_searchOn_94 : decode cX0_searchOn 94 = .ok (.return_, 1) := by decide +kernel
end
section
set_option maxRecDepth 20000 in
theorem ggX1_init_X0_init : GoodIn wsX1_init wsX0_init := goodIn_r _ [10, 11, 2, 3, 12, 13, 14, 15, 16, 17, 18, 19, 20, 21, 22, 23, 24, 25, 26, 27, 28, 29, 30, 31, 32, 33, 34, 35, 36, 37, 38, 39, 40, 41, 42] (by decide +kernel) (by decide +kernel)
set_option maxRecDepth 20000 in
theorem gX1_init_X0_init_n9 : GoodIn wsX1_init (wsX0_init) := ggX1_init_X0_init
theorem dX1_init_0 : decode cX1_init 0 = .ok (.aload_n 0, 1) := by decide +kernel
theorem dX1_init_1 : decode cX1_init 1 = .ok (.invokespecial 1, 3) := by decide +kernel
theorem dX1_init_4 : decode cX1_init 4 = .ok (.aload_n 0, 1) := by decide +kernel
theorem dX1_init_5 : decode cX1_init 5 = .ok (.new 7, 3) := by decide +kernel
theorem dX1_init_8 : decode cX1_init 8 = .ok (.dup, 1) := by decide +kernel
theorem dX1_init_9 : decode cX1_init 9 = .ok (.invokespecial 9, 3) := by decide +kernel
theorem dX1_init_12 : decode cX1_init 12 = .ok (.putfield 10, 3) := by decide +kernel
theorem dX1_init_15 : decode cX1_init 15 = .ok (.aload_n 0, 1) := by decide +kernel
theorem dX1_init_16 : decode cX1_init 16 = .ok (.new 7, 3) := by decide +kernel
theorem dX1_init_19 : decode cX1_init 19 = .ok (.dup, 1) := by decide +kernel
theorem dX1_init_20 : decode cX1_init 20 = .ok (.invokespecial 9, 3) := by decide +kernel
theorem dX1_init_23 : decode cX1_init 23 = .ok (.putfield 16, 3) := by decide +kernel
theorem dX1_init_26 : decode cX1_init 26 = .ok (.return_, 1) := by decide +kernel
set_option maxRecDepth 20000 in
theorem ggX1_addGuard_X0_admitGuard : GoodIn wsX1_addGuard wsX0_admitGuard := goodIn_r _ [9, 10, 11, 12, 13, 16, 17, 18, 19, 20, 21, 22, 23, 24, 25, 26, 27, 28, 29, 30] (by decide +kernel) (by decide +kernel)
set_option maxRecDepth 20000 in
theorem gX1_addGuard_X0_admitGuard : GoodIn wsX1_addGuard (wsV RX1 30 RX0 yX0_admitGuard wsX0_admitGuard) := goodIn_app (goodIn_of _ (by decide +kernel)) ggX1_addGuard_X0_admitGuard
theorem dX1_addGuard_0 : decode cX1_addGuard 0 = .ok (.aload_n 0, 1) := by decide +kernel
theorem dX1_addGuard_1 : decode cX1_addGuard 1 = .ok (.getfield 10, 3) := by decide +kernel
theorem dX1_addGuard_4 : decode cX1_addGuard 4 = .ok (.getfield 19, 3) := by decide +kernel
theorem dX1_addGuard_7 : decode cX1_addGuard 7 = .ok (.iconst 4, 1) := by decide +kernel
theorem dX1_addGuard_8 : decode cX1_addGuard 8 = .ok (.if_icmp .lt 13, 3) := by decide +kernel
theorem dX1_addGuard_11 : decode cX1_addGuard 11 = .ok (.new 23, 3) := by decide +kernel
theorem dX1_addGuard_14 : decode cX1_addGuard 14 = .ok (.dup, 1) := by decide +kernel
theorem dX1_addGuard_15 : decode cX1_addGuard 15 = .ok (.ldc 25, 2) := by decide +kernel
theorem dX1_addGuard_17 : decode cX1_addGuard 17 = .ok (.invokespecial 27, 3) := by decide +kernel
theorem dX1_addGuard_20 : decode cX1_addGuard 20 = .ok (.athrow, 1) := by decide +kernel
theorem dX1_addGuard_21 : decode cX1_addGuard 21 = .ok (.aload_n 0, 1) := by decide +kernel
theorem dX1_addGuard_22 : decode cX1_addGuard 22 = .ok (.getfield 10, 3) := by decide +kernel
theorem dX1_addGuard_25 : decode cX1_addGuard 25 = .ok (.invokevirtual 30, 3) := by decide +kernel
theorem dX1_addGuard_28 : decode cX1_addGuard 28 = .ok (.aload_n 0, 1) := by decide +kernel
theorem dX1_addGuard_29 : decode cX1_addGuard 29 = .ok (.getfield 10, 3) := by decide +kernel
theorem dX1_addGuard_32 : decode cX1_addGuard 32 = .ok (.getfield 19, 3) := by decide +kernel
theorem dX1_addGuard_35 : decode cX1_addGuard 35 = .ok (.iconst 1, 1) := by decide +kernel
theorem dX1_addGuard_36 : decode cX1_addGuard 36 = .ok (.isub, 1) := by decide +kernel
theorem dX1_addGuard_37 : decode cX1_addGuard 37 = .ok (.ireturn, 1) := by decide +kernel
set_option maxRecDepth 20000 in
theorem ggX1_arrive_X1_requireDigit : GoodIn wsX1_arrive wsX1_requireDigit := goodIn_ca (goodIn_r _ [8, 9, 10] (by decide +kernel) (by decide +kernel)) (goodIn_sub (fun _ h => List.mem_cons_of_mem _ (List.mem_append_right _ h)) (by decide +kernel))
set_option maxRecDepth 20000 in
theorem gX1_arrive_X1_requireDigit : GoodIn wsX1_arrive (va_wsS RX1 33 yX1_requireDigit wsX1_requireDigit) := goodIn_app (goodIn_of _ (by decide +kernel)) ggX1_arrive_X1_requireDigit
set_option maxRecDepth 20000 in
theorem ggX1_arrive_X1_requireMinutes : GoodIn wsX1_arrive wsX1_requireMinutes := goodIn_ca (goodIn_r _ [13, 9, 10] (by decide +kernel) (by decide +kernel)) (goodIn_sub (fun _ h => List.mem_cons_of_mem _ (List.mem_append_right _ h)) (by decide +kernel))
set_option maxRecDepth 20000 in
theorem gX1_arrive_X1_requireMinutes : GoodIn wsX1_arrive (va_wsS RX1 37 yX1_requireMinutes wsX1_requireMinutes) := goodIn_app (goodIn_of _ (by decide +kernel)) ggX1_arrive_X1_requireMinutes
set_option maxRecDepth 20000 in
theorem ggX1_arrive_X0_admitTraveller : GoodIn wsX1_arrive wsX0_admitTraveller := goodIn_r _ [18, 19, 20, 21, 22, 23, 24, 27, 28, 29, 30, 31, 32, 33, 34, 35, 36, 37, 38, 39, 40, 41] (by decide +kernel) (by decide +kernel)
set_option maxRecDepth 20000 in
theorem gX1_arrive_X0_admitTraveller : GoodIn wsX1_arrive (wsV RX1 45 RX0 yX0_admitTraveller wsX0_admitTraveller) := goodIn_app (goodIn_of _ (by decide +kernel)) ggX1_arrive_X0_admitTraveller
theorem dX1_arrive_0 : decode cX1_arrive 0 = .ok (.iload_n 1, 1) := by decide +kernel
theorem dX1_arrive_1 : decode cX1_arrive 1 = .ok (.invokestatic 33, 3) := by decide +kernel
theorem dX1_arrive_4 : decode cX1_arrive 4 = .ok (.iload_n 2, 1) := by decide +kernel
theorem dX1_arrive_5 : decode cX1_arrive 5 = .ok (.invokestatic 33, 3) := by decide +kernel
theorem dX1_arrive_8 : decode cX1_arrive 8 = .ok (.iload_n 3, 1) := by decide +kernel
theorem dX1_arrive_9 : decode cX1_arrive 9 = .ok (.invokestatic 33, 3) := by decide +kernel
theorem dX1_arrive_12 : decode cX1_arrive 12 = .ok (.iload 4, 2) := by decide +kernel
theorem dX1_arrive_14 : decode cX1_arrive 14 = .ok (.invokestatic 37, 3) := by decide +kernel
theorem dX1_arrive_17 : decode cX1_arrive 17 = .ok (.aload_n 0, 1) := by decide +kernel
theorem dX1_arrive_18 : decode cX1_arrive 18 = .ok (.getfield 10, 3) := by decide +kernel
theorem dX1_arrive_21 : decode cX1_arrive 21 = .ok (.getfield 40, 3) := by decide +kernel
theorem dX1_arrive_24 : decode cX1_arrive 24 = .ok (.bipush 24, 2) := by decide +kernel
theorem dX1_arrive_26 : decode cX1_arrive 26 = .ok (.if_icmp .lt 13, 3) := by decide +kernel
theorem dX1_arrive_29 : decode cX1_arrive 29 = .ok (.new 23, 3) := by decide +kernel
theorem dX1_arrive_32 : decode cX1_arrive 32 = .ok (.dup, 1) := by decide +kernel
theorem dX1_arrive_33 : decode cX1_arrive 33 = .ok (.ldc 43, 2) := by decide +kernel
theorem dX1_arrive_35 : decode cX1_arrive 35 = .ok (.invokespecial 27, 3) := by decide +kernel
theorem dX1_arrive_38 : decode cX1_arrive 38 = .ok (.athrow, 1) := by decide +kernel
theorem dX1_arrive_39 : decode cX1_arrive 39 = .ok (.aload_n 0, 1) := by decide +kernel
theorem dX1_arrive_40 : decode cX1_arrive 40 = .ok (.getfield 10, 3) := by decide +kernel
theorem dX1_arrive_43 : decode cX1_arrive 43 = .ok (.iload_n 1, 1) := by decide +kernel
theorem dX1_arrive_44 : decode cX1_arrive 44 = .ok (.iload_n 2, 1) := by decide +kernel
theorem dX1_arrive_45 : decode cX1_arrive 45 = .ok (.iload_n 3, 1) := by decide +kernel
theorem dX1_arrive_46 : decode cX1_arrive 46 = .ok (.iload 4, 2) := by decide +kernel
theorem dX1_arrive_48 : decode cX1_arrive 48 = .ok (.invokevirtual 45, 3) := by decide +kernel
theorem dX1_arrive_51 : decode cX1_arrive 51 = .ok (.aload_n 0, 1) := by decide +kernel
theorem dX1_arrive_52 : decode cX1_arrive 52 = .ok (.getfield 10, 3) := by decide +kernel
theorem dX1_arrive_55 : decode cX1_arrive 55 = .ok (.getfield 40, 3) := by decide +kernel
theorem dX1_arrive_58 : decode cX1_arrive 58 = .ok (.iconst 1, 1) := by decide +kernel
theorem dX1_arrive_59 : decode cX1_arrive 59 = .ok (.isub, 1) := by decide +kernel
theorem dX1_arrive_60 : decode cX1_arrive 60 = .ok (.ireturn, 1) := by decide +kernel
set_option maxRecDepth 20000 in
theorem ggX1_declare_X1_requireTraveller : GoodIn wsX1_declare wsX1_requireTraveller := goodIn_ca (goodIn_r _ [7, 8, 9, 1, 10, 11, 12, 13, 14, 15, 28, 29, 30, 31, 32, 33, 34, 35, 36, 37, 38, 39, 40, 41, 42, 43, 44] (by decide +kernel) (by decide +kernel)) (goodIn_sub (fun _ h => List.mem_cons_of_mem _ (List.mem_append_left _ (List.mem_append_left _ (List.mem_append_right _ h)))) (by decide +kernel))
set_option maxRecDepth 20000 in
theorem gX1_declare_X1_requireTraveller : GoodIn wsX1_declare (wsV RX1 49 RX1 yX1_requireTraveller wsX1_requireTraveller) := goodIn_app (goodIn_of _ (by decide +kernel)) ggX1_declare_X1_requireTraveller
set_option maxRecDepth 20000 in
theorem ggX1_declare_X1_requireDigit : GoodIn wsX1_declare wsX1_requireDigit := goodIn_ca (goodIn_r _ [18, 19, 20] (by decide +kernel) (by decide +kernel)) (goodIn_sub (fun _ h => List.mem_cons_of_mem _ (List.mem_append_left _ (List.mem_append_right _ h))) (by decide +kernel))
set_option maxRecDepth 20000 in
theorem gX1_declare_X1_requireDigit : GoodIn wsX1_declare (va_wsS RX1 33 yX1_requireDigit wsX1_requireDigit) := goodIn_app (goodIn_of _ (by decide +kernel)) ggX1_declare_X1_requireDigit
set_option maxRecDepth 20000 in
theorem ggX1_declare_X1_requireWaiting : GoodIn wsX1_declare wsX1_requireWaiting := goodIn_ca (goodIn_r _ [24, 25, 26, 1, 27, 28, 29, 30, 31, 32, 33, 34, 35, 36, 37, 38, 39, 40, 41, 42, 43, 44] (by decide +kernel) (by decide +kernel)) (goodIn_sub (fun _ h => List.mem_cons_of_mem _ (List.mem_append_right _ h)) (by decide +kernel))
set_option maxRecDepth 20000 in
theorem gX1_declare_X1_requireWaiting : GoodIn wsX1_declare (wsV RX1 52 RX1 yX1_requireWaiting wsX1_requireWaiting) := goodIn_app (goodIn_of _ (by decide +kernel)) ggX1_declare_X1_requireWaiting
theorem dX1_declare_0 : decode cX1_declare 0 = .ok (.aload_n 0, 1) := by decide +kernel
theorem dX1_declare_1 : decode cX1_declare 1 = .ok (.iload_n 1, 1) := by decide +kernel
theorem dX1_declare_2 : decode cX1_declare 2 = .ok (.invokevirtual 49, 3) := by decide +kernel
theorem dX1_declare_5 : decode cX1_declare 5 = .ok (.iload_n 2, 1) := by decide +kernel
theorem dX1_declare_6 : decode cX1_declare 6 = .ok (.invokestatic 33, 3) := by decide +kernel
theorem dX1_declare_9 : decode cX1_declare 9 = .ok (.aload_n 0, 1) := by decide +kernel
theorem dX1_declare_10 : decode cX1_declare 10 = .ok (.iload_n 1, 1) := by decide +kernel
theorem dX1_declare_11 : decode cX1_declare 11 = .ok (.invokevirtual 52, 3) := by decide +kernel
theorem dX1_declare_14 : decode cX1_declare 14 = .ok (.aload_n 0, 1) := by decide +kernel
theorem dX1_declare_15 : decode cX1_declare 15 = .ok (.getfield 10, 3) := by decide +kernel
theorem dX1_declare_18 : decode cX1_declare 18 = .ok (.getfield 55, 3) := by decide +kernel
theorem dX1_declare_21 : decode cX1_declare 21 = .ok (.iload_n 1, 1) := by decide +kernel
theorem dX1_declare_22 : decode cX1_declare 22 = .ok (.iaload, 1) := by decide +kernel
theorem dX1_declare_23 : decode cX1_declare 23 = .ok (.istore_n 3, 1) := by decide +kernel
theorem dX1_declare_24 : decode cX1_declare 24 = .ok (.aload_n 0, 1) := by decide +kernel
theorem dX1_declare_25 : decode cX1_declare 25 = .ok (.getfield 10, 3) := by decide +kernel
theorem dX1_declare_28 : decode cX1_declare 28 = .ok (.getfield 55, 3) := by decide +kernel
theorem dX1_declare_31 : decode cX1_declare 31 = .ok (.iload_n 1, 1) := by decide +kernel
theorem dX1_declare_32 : decode cX1_declare 32 = .ok (.iload_n 2, 1) := by decide +kernel
theorem dX1_declare_33 : decode cX1_declare 33 = .ok (.iastore, 1) := by decide +kernel
theorem dX1_declare_34 : decode cX1_declare 34 = .ok (.iload_n 3, 1) := by decide +kernel
theorem dX1_declare_35 : decode cX1_declare 35 = .ok (.ireturn, 1) := by decide +kernel
set_option maxRecDepth 20000 in
theorem ggX1_sing_X1_requireTraveller : GoodIn wsX1_sing wsX1_requireTraveller := goodIn_ca (goodIn_r _ [7, 8, 9, 1, 10, 11, 12, 13, 14, 15, 28, 29, 30, 31, 32, 33, 34, 35, 36, 37, 38, 39, 40, 41, 42, 43, 44] (by decide +kernel) (by decide +kernel)) (goodIn_sub (fun _ h => List.mem_cons_of_mem _ (List.mem_append_left _ (List.mem_append_left _ (List.mem_append_right _ h)))) (by decide +kernel))
set_option maxRecDepth 20000 in
theorem gX1_sing_X1_requireTraveller : GoodIn wsX1_sing (wsV RX1 49 RX1 yX1_requireTraveller wsX1_requireTraveller) := goodIn_app (goodIn_of _ (by decide +kernel)) ggX1_sing_X1_requireTraveller
set_option maxRecDepth 20000 in
theorem ggX1_sing_X1_requireMinutes : GoodIn wsX1_sing wsX1_requireMinutes := goodIn_ca (goodIn_r _ [18, 19, 20] (by decide +kernel) (by decide +kernel)) (goodIn_sub (fun _ h => List.mem_cons_of_mem _ (List.mem_append_left _ (List.mem_append_right _ h))) (by decide +kernel))
set_option maxRecDepth 20000 in
theorem gX1_sing_X1_requireMinutes : GoodIn wsX1_sing (va_wsS RX1 37 yX1_requireMinutes wsX1_requireMinutes) := goodIn_app (goodIn_of _ (by decide +kernel)) ggX1_sing_X1_requireMinutes
set_option maxRecDepth 20000 in
theorem ggX1_sing_X1_requireWaiting : GoodIn wsX1_sing wsX1_requireWaiting := goodIn_ca (goodIn_r _ [24, 25, 26, 1, 27, 28, 29, 30, 31, 32, 33, 34, 35, 36, 37, 38, 39, 40, 41, 42, 43, 44] (by decide +kernel) (by decide +kernel)) (goodIn_sub (fun _ h => List.mem_cons_of_mem _ (List.mem_append_right _ h)) (by decide +kernel))
set_option maxRecDepth 20000 in
theorem gX1_sing_X1_requireWaiting : GoodIn wsX1_sing (wsV RX1 52 RX1 yX1_requireWaiting wsX1_requireWaiting) := goodIn_app (goodIn_of _ (by decide +kernel)) ggX1_sing_X1_requireWaiting
theorem dX1_sing_0 : decode cX1_sing 0 = .ok (.aload_n 0, 1) := by decide +kernel
theorem dX1_sing_1 : decode cX1_sing 1 = .ok (.iload_n 1, 1) := by decide +kernel
theorem dX1_sing_2 : decode cX1_sing 2 = .ok (.invokevirtual 49, 3) := by decide +kernel
theorem dX1_sing_5 : decode cX1_sing 5 = .ok (.iload_n 2, 1) := by decide +kernel
theorem dX1_sing_6 : decode cX1_sing 6 = .ok (.invokestatic 37, 3) := by decide +kernel
theorem dX1_sing_9 : decode cX1_sing 9 = .ok (.aload_n 0, 1) := by decide +kernel
theorem dX1_sing_10 : decode cX1_sing 10 = .ok (.iload_n 1, 1) := by decide +kernel
theorem dX1_sing_11 : decode cX1_sing 11 = .ok (.invokevirtual 52, 3) := by decide +kernel
theorem dX1_sing_14 : decode cX1_sing 14 = .ok (.aload_n 0, 1) := by decide +kernel
theorem dX1_sing_15 : decode cX1_sing 15 = .ok (.getfield 10, 3) := by decide +kernel
theorem dX1_sing_18 : decode cX1_sing 18 = .ok (.getfield 59, 3) := by decide +kernel
theorem dX1_sing_21 : decode cX1_sing 21 = .ok (.iload_n 1, 1) := by decide +kernel
theorem dX1_sing_22 : decode cX1_sing 22 = .ok (.iaload, 1) := by decide +kernel
theorem dX1_sing_23 : decode cX1_sing 23 = .ok (.istore_n 3, 1) := by decide +kernel
theorem dX1_sing_24 : decode cX1_sing 24 = .ok (.aload_n 0, 1) := by decide +kernel
theorem dX1_sing_25 : decode cX1_sing 25 = .ok (.getfield 10, 3) := by decide +kernel
theorem dX1_sing_28 : decode cX1_sing 28 = .ok (.getfield 59, 3) := by decide +kernel
theorem dX1_sing_31 : decode cX1_sing 31 = .ok (.iload_n 1, 1) := by decide +kernel
theorem dX1_sing_32 : decode cX1_sing 32 = .ok (.iload_n 2, 1) := by decide +kernel
theorem dX1_sing_33 : decode cX1_sing 33 = .ok (.iastore, 1) := by decide +kernel
theorem dX1_sing_34 : decode cX1_sing 34 = .ok (.iload_n 3, 1) := by decide +kernel
theorem dX1_sing_35 : decode cX1_sing 35 = .ok (.ireturn, 1) := by decide +kernel
set_option maxRecDepth 20000 in
theorem ggX1_wake_X1_requireGuard : GoodIn wsX1_wake wsX1_requireGuard := goodIn_ca (goodIn_r _ [7, 8, 9, 1, 10, 11, 12, 13, 14, 15, 16, 17, 18, 19, 20, 21, 22, 23, 24, 25, 26, 27, 28, 29, 30, 31, 32] (by decide +kernel) (by decide +kernel)) (goodIn_sub (fun _ h => List.mem_cons_of_mem _ (List.mem_append_right _ h)) (by decide +kernel))
set_option maxRecDepth 20000 in
theorem gX1_wake_X1_requireGuard : GoodIn wsX1_wake (wsV RX1 62 RX1 yX1_requireGuard wsX1_requireGuard) := goodIn_app (goodIn_of _ (by decide +kernel)) ggX1_wake_X1_requireGuard
theorem dX1_wake_0 : decode cX1_wake 0 = .ok (.aload_n 0, 1) := by decide +kernel
theorem dX1_wake_1 : decode cX1_wake 1 = .ok (.iload_n 1, 1) := by decide +kernel
theorem dX1_wake_2 : decode cX1_wake 2 = .ok (.invokevirtual 62, 3) := by decide +kernel
theorem dX1_wake_5 : decode cX1_wake 5 = .ok (.aload_n 0, 1) := by decide +kernel
theorem dX1_wake_6 : decode cX1_wake 6 = .ok (.getfield 10, 3) := by decide +kernel
theorem dX1_wake_9 : decode cX1_wake 9 = .ok (.getfield 65, 3) := by decide +kernel
theorem dX1_wake_12 : decode cX1_wake 12 = .ok (.iload_n 1, 1) := by decide +kernel
theorem dX1_wake_13 : decode cX1_wake 13 = .ok (.iaload, 1) := by decide +kernel
theorem dX1_wake_14 : decode cX1_wake 14 = .ok (.istore_n 2, 1) := by decide +kernel
theorem dX1_wake_15 : decode cX1_wake 15 = .ok (.aload_n 0, 1) := by decide +kernel
theorem dX1_wake_16 : decode cX1_wake 16 = .ok (.getfield 10, 3) := by decide +kernel
theorem dX1_wake_19 : decode cX1_wake 19 = .ok (.getfield 65, 3) := by decide +kernel
theorem dX1_wake_22 : decode cX1_wake 22 = .ok (.iload_n 1, 1) := by decide +kernel
theorem dX1_wake_23 : decode cX1_wake 23 = .ok (.bipush 9, 2) := by decide +kernel
theorem dX1_wake_25 : decode cX1_wake 25 = .ok (.iastore, 1) := by decide +kernel
theorem dX1_wake_26 : decode cX1_wake 26 = .ok (.iload_n 2, 1) := by decide +kernel
theorem dX1_wake_27 : decode cX1_wake 27 = .ok (.ireturn, 1) := by decide +kernel
set_option maxRecDepth 20000 in
theorem ggX1_pass_X1_requireMinutes : GoodIn wsX1_pass wsX1_requireMinutes := goodIn_ca (goodIn_r _ [5, 6, 7] (by decide +kernel) (by decide +kernel)) (goodIn_sub (fun _ h => List.mem_cons_of_mem _ (List.mem_append_right _ h)) (by decide +kernel))
set_option maxRecDepth 20000 in
theorem gX1_pass_X1_requireMinutes : GoodIn wsX1_pass (va_wsS RX1 37 yX1_requireMinutes wsX1_requireMinutes) := goodIn_app (goodIn_of _ (by decide +kernel)) ggX1_pass_X1_requireMinutes
set_option maxRecDepth 20000 in
theorem ggX1_pass_X0_countIn : GoodIn wsX1_pass wsX0_countIn := goodIn_r _ [12, 13, 14, 81, 82, 83, 84, 85, 86, 87, 88, 89, 90, 91, 92, 93, 94, 95] (by decide +kernel) (by decide +kernel)
set_option maxRecDepth 20000 in
theorem gX1_pass_X0_countIn : GoodIn wsX1_pass (wsV RX1 68 RX0 yX0_countIn wsX0_countIn) := goodIn_app (goodIn_of _ (by decide +kernel)) ggX1_pass_X0_countIn
set_option maxRecDepth 20000 in
theorem ggX1_pass_X0_goOneMinute : GoodIn wsX1_pass wsX0_goOneMinute := goodIn_r _ [18, 19, 20, 21, 22, 23, 24, 11, 25, 13, 14, 26, 27, 28, 29, 30, 31, 32, 33, 34, 35, 36, 37, 38, 39, 40, 41, 42, 43, 44, 45, 46, 47, 48, 49, 50, 51, 52, 53, 54, 55, 56, 57, 58, 59, 60, 61, 62, 63, 64, 65, 66, 67, 68, 69, 70, 71, 72, 73, 74, 75, 76, 77, 78, 81, 82, 83, 84, 85, 86, 87, 88, 89, 90, 91, 92, 93, 94, 95] (by decide +kernel) (by decide +kernel)
set_option maxRecDepth 20000 in
theorem gX1_pass_X0_goOneMinute : GoodIn wsX1_pass (wsV RX1 72 RX0 yX0_goOneMinute wsX0_goOneMinute) := goodIn_app (goodIn_of _ (by decide +kernel)) ggX1_pass_X0_goOneMinute
theorem dX1_pass_0 : decode cX1_pass 0 = .ok (.iload_n 1, 1) := by decide +kernel
theorem dX1_pass_1 : decode cX1_pass 1 = .ok (.invokestatic 37, 3) := by decide +kernel
theorem dX1_pass_4 : decode cX1_pass 4 = .ok (.aload_n 0, 1) := by decide +kernel
theorem dX1_pass_5 : decode cX1_pass 5 = .ok (.getfield 10, 3) := by decide +kernel
theorem dX1_pass_8 : decode cX1_pass 8 = .ok (.iconst 3, 1) := by decide +kernel
theorem dX1_pass_9 : decode cX1_pass 9 = .ok (.invokevirtual 68, 3) := by decide +kernel
theorem dX1_pass_12 : decode cX1_pass 12 = .ok (.istore_n 2, 1) := by decide +kernel
theorem dX1_pass_13 : decode cX1_pass 13 = .ok (.iconst 0, 1) := by decide +kernel
theorem dX1_pass_14 : decode cX1_pass 14 = .ok (.istore_n 3, 1) := by decide +kernel
theorem dX1_pass_15 : decode cX1_pass 15 = .ok (.iload_n 3, 1) := by decide +kernel
theorem dX1_pass_16 : decode cX1_pass 16 = .ok (.iload_n 1, 1) := by decide +kernel
theorem dX1_pass_17 : decode cX1_pass 17 = .ok (.if_icmp .ge 16, 3) := by decide +kernel
theorem dX1_pass_20 : decode cX1_pass 20 = .ok (.aload_n 0, 1) := by decide +kernel
theorem dX1_pass_21 : decode cX1_pass 21 = .ok (.getfield 10, 3) := by decide +kernel
theorem dX1_pass_24 : decode cX1_pass 24 = .ok (.invokevirtual 72, 3) := by decide +kernel
theorem dX1_pass_27 : decode cX1_pass 27 = .ok (.iinc 3 1, 3) := by decide +kernel
theorem dX1_pass_30 : decode cX1_pass 30 = .ok (.goto (-15), 3) := by decide +kernel
theorem dX1_pass_33 : decode cX1_pass 33 = .ok (.aload_n 0, 1) := by decide +kernel
theorem dX1_pass_34 : decode cX1_pass 34 = .ok (.getfield 10, 3) := by decide +kernel
theorem dX1_pass_37 : decode cX1_pass 37 = .ok (.iconst 3, 1) := by decide +kernel
theorem dX1_pass_38 : decode cX1_pass 38 = .ok (.invokevirtual 68, 3) := by decide +kernel
theorem dX1_pass_41 : decode cX1_pass 41 = .ok (.iload_n 2, 1) := by decide +kernel
theorem dX1_pass_42 : decode cX1_pass 42 = .ok (.isub, 1) := by decide +kernel
theorem dX1_pass_43 : decode cX1_pass 43 = .ok (.ireturn, 1) := by decide +kernel
theorem dX1_minute_0 : decode cX1_minute 0 = .ok (.aload_n 0, 1) := by decide +kernel
theorem dX1_minute_1 : decode cX1_minute 1 = .ok (.getfield 10, 3) := by decide +kernel
theorem dX1_minute_4 : decode cX1_minute 4 = .ok (.getfield 75, 3) := by decide +kernel
theorem dX1_minute_7 : decode cX1_minute 7 = .ok (.ireturn, 1) := by decide +kernel
theorem dX1_travellers_0 : decode cX1_travellers 0 = .ok (.aload_n 0, 1) := by decide +kernel
theorem dX1_travellers_1 : decode cX1_travellers 1 = .ok (.getfield 10, 3) := by decide +kernel
theorem dX1_travellers_4 : decode cX1_travellers 4 = .ok (.getfield 40, 3) := by decide +kernel
theorem dX1_travellers_7 : decode cX1_travellers 7 = .ok (.ireturn, 1) := by decide +kernel
set_option maxRecDepth 20000 in
theorem ggX1_waiting_X0_countIn : GoodIn wsX1_waiting wsX0_countIn := goodIn_r _ [6, 7, 8, 11, 12, 13, 14, 15, 16, 17, 18, 19, 20, 21, 22, 23, 24, 25] (by decide +kernel) (by decide +kernel)
set_option maxRecDepth 20000 in
theorem gX1_waiting_X0_countIn : GoodIn wsX1_waiting (wsV RX1 68 RX0 yX0_countIn wsX0_countIn) := goodIn_app (goodIn_of _ (by decide +kernel)) ggX1_waiting_X0_countIn
theorem dX1_waiting_0 : decode cX1_waiting 0 = .ok (.aload_n 0, 1) := by decide +kernel
theorem dX1_waiting_1 : decode cX1_waiting 1 = .ok (.getfield 10, 3) := by decide +kernel
theorem dX1_waiting_4 : decode cX1_waiting 4 = .ok (.iconst 0, 1) := by decide +kernel
theorem dX1_waiting_5 : decode cX1_waiting 5 = .ok (.invokevirtual 68, 3) := by decide +kernel
theorem dX1_waiting_8 : decode cX1_waiting 8 = .ok (.ireturn, 1) := by decide +kernel
set_option maxRecDepth 20000 in
theorem ggX1_asleep_X0_countIn : GoodIn wsX1_asleep wsX0_countIn := goodIn_r _ [6, 7, 8, 11, 12, 13, 14, 15, 16, 17, 18, 19, 20, 21, 22, 23, 24, 25] (by decide +kernel) (by decide +kernel)
set_option maxRecDepth 20000 in
theorem gX1_asleep_X0_countIn : GoodIn wsX1_asleep (wsV RX1 68 RX0 yX0_countIn wsX0_countIn) := goodIn_app (goodIn_of _ (by decide +kernel)) ggX1_asleep_X0_countIn
theorem dX1_asleep_0 : decode cX1_asleep 0 = .ok (.aload_n 0, 1) := by decide +kernel
theorem dX1_asleep_1 : decode cX1_asleep 1 = .ok (.getfield 10, 3) := by decide +kernel
theorem dX1_asleep_4 : decode cX1_asleep 4 = .ok (.iconst 3, 1) := by decide +kernel
theorem dX1_asleep_5 : decode cX1_asleep 5 = .ok (.invokevirtual 68, 3) := by decide +kernel
theorem dX1_asleep_8 : decode cX1_asleep 8 = .ok (.ireturn, 1) := by decide +kernel
set_option maxRecDepth 20000 in
theorem ggX1_sentBack_X0_countIn : GoodIn wsX1_sentBack wsX0_countIn := goodIn_r _ [6, 7, 8, 11, 12, 13, 14, 15, 16, 17, 18, 19, 20, 21, 22, 23, 24, 25] (by decide +kernel) (by decide +kernel)
set_option maxRecDepth 20000 in
theorem gX1_sentBack_X0_countIn : GoodIn wsX1_sentBack (wsV RX1 68 RX0 yX0_countIn wsX0_countIn) := goodIn_app (goodIn_of _ (by decide +kernel)) ggX1_sentBack_X0_countIn
theorem dX1_sentBack_0 : decode cX1_sentBack 0 = .ok (.aload_n 0, 1) := by decide +kernel
theorem dX1_sentBack_1 : decode cX1_sentBack 1 = .ok (.getfield 10, 3) := by decide +kernel
theorem dX1_sentBack_4 : decode cX1_sentBack 4 = .ok (.iconst 4, 1) := by decide +kernel
theorem dX1_sentBack_5 : decode cX1_sentBack 5 = .ok (.invokevirtual 68, 3) := by decide +kernel
theorem dX1_sentBack_8 : decode cX1_sentBack 8 = .ok (.ireturn, 1) := by decide +kernel
theorem dX1_expired_0 : decode cX1_expired 0 = .ok (.aload_n 0, 1) := by decide +kernel
theorem dX1_expired_1 : decode cX1_expired 1 = .ok (.getfield 10, 3) := by decide +kernel
theorem dX1_expired_4 : decode cX1_expired 4 = .ok (.getfield 78, 3) := by decide +kernel
theorem dX1_expired_7 : decode cX1_expired 7 = .ok (.ireturn, 1) := by decide +kernel
theorem dX1_paid_0 : decode cX1_paid 0 = .ok (.aload_n 0, 1) := by decide +kernel
theorem dX1_paid_1 : decode cX1_paid 1 = .ok (.getfield 10, 3) := by decide +kernel
theorem dX1_paid_4 : decode cX1_paid 4 = .ok (.getfield 81, 3) := by decide +kernel
theorem dX1_paid_7 : decode cX1_paid 7 = .ok (.ireturn, 1) := by decide +kernel
set_option maxRecDepth 20000 in
theorem ggX1_noise_X0_addedSnores : GoodIn wsX1_noise wsX0_addedSnores := goodIn_r _ [6, 7, 8, 9, 12, 13, 14, 15, 16, 17, 18, 19, 20, 21, 22, 23, 24, 25, 26] (by decide +kernel) (by decide +kernel)
set_option maxRecDepth 20000 in
theorem gX1_noise_X0_addedSnores : GoodIn wsX1_noise (wsV RX1 84 RX0 yX0_addedSnores wsX0_addedSnores) := goodIn_app (goodIn_of _ (by decide +kernel)) ggX1_noise_X0_addedSnores
theorem dX1_noise_0 : decode cX1_noise 0 = .ok (.aload_n 0, 1) := by decide +kernel
theorem dX1_noise_1 : decode cX1_noise 1 = .ok (.getfield 10, 3) := by decide +kernel
theorem dX1_noise_4 : decode cX1_noise 4 = .ok (.invokevirtual 84, 3) := by decide +kernel
theorem dX1_noise_7 : decode cX1_noise 7 = .ok (.ireturn, 1) := by decide +kernel
set_option maxRecDepth 20000 in
theorem ggX1_nextInLine_X0_firstWaiting : GoodIn wsX1_nextInLine wsX0_firstWaiting := goodIn_r _ [6, 7, 8, 11, 12, 13, 14, 15, 16, 17, 18, 19, 20, 21, 22, 23, 24, 25] (by decide +kernel) (by decide +kernel)
set_option maxRecDepth 20000 in
theorem gX1_nextInLine_X0_firstWaiting : GoodIn wsX1_nextInLine (wsV RX1 88 RX0 yX0_firstWaiting wsX0_firstWaiting) := goodIn_app (goodIn_of _ (by decide +kernel)) ggX1_nextInLine_X0_firstWaiting
theorem dX1_nextInLine_0 : decode cX1_nextInLine 0 = .ok (.aload_n 0, 1) := by decide +kernel
theorem dX1_nextInLine_1 : decode cX1_nextInLine 1 = .ok (.getfield 10, 3) := by decide +kernel
theorem dX1_nextInLine_4 : decode cX1_nextInLine 4 = .ok (.invokevirtual 88, 3) := by decide +kernel
theorem dX1_nextInLine_7 : decode cX1_nextInLine 7 = .ok (.ireturn, 1) := by decide +kernel
set_option maxRecDepth 20000 in
theorem ggX1_stateOf_X1_requireTraveller : GoodIn wsX1_stateOf wsX1_requireTraveller := goodIn_ca (goodIn_r _ [7, 8, 9, 1, 10, 11, 12, 13, 14, 15, 16, 17, 18, 19, 20, 21, 22, 23, 24, 25, 26, 27, 28, 29, 30, 31, 32] (by decide +kernel) (by decide +kernel)) (goodIn_sub (fun _ h => List.mem_cons_of_mem _ (List.mem_append_right _ h)) (by decide +kernel))
set_option maxRecDepth 20000 in
theorem gX1_stateOf_X1_requireTraveller : GoodIn wsX1_stateOf (wsV RX1 49 RX1 yX1_requireTraveller wsX1_requireTraveller) := goodIn_app (goodIn_of _ (by decide +kernel)) ggX1_stateOf_X1_requireTraveller
theorem dX1_stateOf_0 : decode cX1_stateOf 0 = .ok (.aload_n 0, 1) := by decide +kernel
theorem dX1_stateOf_1 : decode cX1_stateOf 1 = .ok (.iload_n 1, 1) := by decide +kernel
theorem dX1_stateOf_2 : decode cX1_stateOf 2 = .ok (.invokevirtual 49, 3) := by decide +kernel
theorem dX1_stateOf_5 : decode cX1_stateOf 5 = .ok (.aload_n 0, 1) := by decide +kernel
theorem dX1_stateOf_6 : decode cX1_stateOf 6 = .ok (.getfield 10, 3) := by decide +kernel
theorem dX1_stateOf_9 : decode cX1_stateOf 9 = .ok (.getfield 91, 3) := by decide +kernel
theorem dX1_stateOf_12 : decode cX1_stateOf 12 = .ok (.iload_n 1, 1) := by decide +kernel
theorem dX1_stateOf_13 : decode cX1_stateOf 13 = .ok (.iaload, 1) := by decide +kernel
theorem dX1_stateOf_14 : decode cX1_stateOf 14 = .ok (.ireturn, 1) := by decide +kernel
set_option maxRecDepth 20000 in
theorem ggX1_hiddenOf_X1_requireTraveller : GoodIn wsX1_hiddenOf wsX1_requireTraveller := goodIn_ca (goodIn_r _ [6, 7, 8, 1, 9, 10, 11, 12, 13, 14, 21, 22, 23, 24, 25, 26, 27, 28, 29, 30, 31, 32, 33, 34, 35, 36, 37] (by decide +kernel) (by decide +kernel)) (goodIn_sub (fun _ h => List.mem_cons_of_mem _ (List.mem_append_right _ h)) (by decide +kernel))
set_option maxRecDepth 20000 in
theorem gX1_hiddenOf_X1_requireTraveller : GoodIn wsX1_hiddenOf (wsV RX1 49 RX1 yX1_requireTraveller wsX1_requireTraveller) := goodIn_app (goodIn_of _ (by decide +kernel)) ggX1_hiddenOf_X1_requireTraveller
set_option maxRecDepth 20000 in
theorem ggX1_hiddenOf_X0_hiddenDreams : GoodIn wsX1_hiddenOf wsX0_hiddenDreams := goodIn_r _ [18, 19, 20, 23, 24, 25, 26, 27, 28, 29, 30, 31, 32, 33, 34, 35, 36, 37] (by decide +kernel) (by decide +kernel)
set_option maxRecDepth 20000 in
theorem gX1_hiddenOf_X0_hiddenDreams : GoodIn wsX1_hiddenOf (wsV RX1 94 RX0 yX0_hiddenDreams wsX0_hiddenDreams) := goodIn_app (goodIn_of _ (by decide +kernel)) ggX1_hiddenOf_X0_hiddenDreams
theorem dX1_hiddenOf_0 : decode cX1_hiddenOf 0 = .ok (.aload_n 0, 1) := by decide +kernel
theorem dX1_hiddenOf_1 : decode cX1_hiddenOf 1 = .ok (.iload_n 1, 1) := by decide +kernel
theorem dX1_hiddenOf_2 : decode cX1_hiddenOf 2 = .ok (.invokevirtual 49, 3) := by decide +kernel
theorem dX1_hiddenOf_5 : decode cX1_hiddenOf 5 = .ok (.aload_n 0, 1) := by decide +kernel
theorem dX1_hiddenOf_6 : decode cX1_hiddenOf 6 = .ok (.getfield 10, 3) := by decide +kernel
theorem dX1_hiddenOf_9 : decode cX1_hiddenOf 9 = .ok (.iload_n 1, 1) := by decide +kernel
theorem dX1_hiddenOf_10 : decode cX1_hiddenOf 10 = .ok (.invokevirtual 94, 3) := by decide +kernel
theorem dX1_hiddenOf_13 : decode cX1_hiddenOf 13 = .ok (.ireturn, 1) := by decide +kernel
set_option maxRecDepth 20000 in
theorem ggX1_lullabyOf_X1_requireTraveller : GoodIn wsX1_lullabyOf wsX1_requireTraveller := goodIn_ca (goodIn_r _ [7, 8, 9, 1, 10, 11, 12, 13, 14, 15, 16, 17, 18, 19, 20, 21, 22, 23, 24, 25, 26, 27, 28, 29, 30, 31, 32] (by decide +kernel) (by decide +kernel)) (goodIn_sub (fun _ h => List.mem_cons_of_mem _ (List.mem_append_right _ h)) (by decide +kernel))
set_option maxRecDepth 20000 in
theorem gX1_lullabyOf_X1_requireTraveller : GoodIn wsX1_lullabyOf (wsV RX1 49 RX1 yX1_requireTraveller wsX1_requireTraveller) := goodIn_app (goodIn_of _ (by decide +kernel)) ggX1_lullabyOf_X1_requireTraveller
theorem dX1_lullabyOf_0 : decode cX1_lullabyOf 0 = .ok (.aload_n 0, 1) := by decide +kernel
theorem dX1_lullabyOf_1 : decode cX1_lullabyOf 1 = .ok (.iload_n 1, 1) := by decide +kernel
theorem dX1_lullabyOf_2 : decode cX1_lullabyOf 2 = .ok (.invokevirtual 49, 3) := by decide +kernel
theorem dX1_lullabyOf_5 : decode cX1_lullabyOf 5 = .ok (.aload_n 0, 1) := by decide +kernel
theorem dX1_lullabyOf_6 : decode cX1_lullabyOf 6 = .ok (.getfield 10, 3) := by decide +kernel
theorem dX1_lullabyOf_9 : decode cX1_lullabyOf 9 = .ok (.getfield 59, 3) := by decide +kernel
theorem dX1_lullabyOf_12 : decode cX1_lullabyOf 12 = .ok (.iload_n 1, 1) := by decide +kernel
theorem dX1_lullabyOf_13 : decode cX1_lullabyOf 13 = .ok (.iaload, 1) := by decide +kernel
theorem dX1_lullabyOf_14 : decode cX1_lullabyOf 14 = .ok (.ireturn, 1) := by decide +kernel
set_option maxRecDepth 20000 in
theorem ggX1_placeInLine_X1_requireTraveller : GoodIn wsX1_placeInLine wsX1_requireTraveller := goodIn_ca (goodIn_r _ [7, 8, 9, 1, 10, 11, 12, 13, 14, 15, 21, 22, 23, 24, 25, 26, 27, 28, 29, 30, 31, 32, 33, 34, 35, 36, 37] (by decide +kernel) (by decide +kernel)) (goodIn_sub (fun _ h => List.mem_cons_of_mem _ (List.mem_append_right _ h)) (by decide +kernel))
set_option maxRecDepth 20000 in
theorem gX1_placeInLine_X1_requireTraveller : GoodIn wsX1_placeInLine (wsV RX1 49 RX1 yX1_requireTraveller wsX1_requireTraveller) := goodIn_app (goodIn_of _ (by decide +kernel)) ggX1_placeInLine_X1_requireTraveller
set_option maxRecDepth 20000 in
theorem ggX1_placeInLine_X0_waitingAhead : GoodIn wsX1_placeInLine wsX0_waitingAhead := goodIn_r _ [19, 15, 20, 23, 24, 25, 26, 27, 28, 29, 30, 31, 32, 33, 34, 35, 36, 37] (by decide +kernel) (by decide +kernel)
set_option maxRecDepth 20000 in
theorem gX1_placeInLine_X0_waitingAhead : GoodIn wsX1_placeInLine (wsV RX1 97 RX0 yX0_waitingAhead wsX0_waitingAhead) := goodIn_app (goodIn_of _ (by decide +kernel)) ggX1_placeInLine_X0_waitingAhead
theorem dX1_placeInLine_0 : decode cX1_placeInLine 0 = .ok (.aload_n 0, 1) := by decide +kernel
theorem dX1_placeInLine_1 : decode cX1_placeInLine 1 = .ok (.iload_n 1, 1) := by decide +kernel
theorem dX1_placeInLine_2 : decode cX1_placeInLine 2 = .ok (.invokevirtual 49, 3) := by decide +kernel
theorem dX1_placeInLine_5 : decode cX1_placeInLine 5 = .ok (.aload_n 0, 1) := by decide +kernel
theorem dX1_placeInLine_6 : decode cX1_placeInLine 6 = .ok (.getfield 10, 3) := by decide +kernel
theorem dX1_placeInLine_9 : decode cX1_placeInLine 9 = .ok (.getfield 91, 3) := by decide +kernel
theorem dX1_placeInLine_12 : decode cX1_placeInLine 12 = .ok (.iload_n 1, 1) := by decide +kernel
theorem dX1_placeInLine_13 : decode cX1_placeInLine 13 = .ok (.iaload, 1) := by decide +kernel
theorem dX1_placeInLine_14 : decode cX1_placeInLine 14 = .ok (.ifCond .eq 5, 3) := by decide +kernel
theorem dX1_placeInLine_17 : decode cX1_placeInLine 17 = .ok (.iconst (-1), 1) := by decide +kernel
theorem dX1_placeInLine_18 : decode cX1_placeInLine 18 = .ok (.ireturn, 1) := by decide +kernel
theorem dX1_placeInLine_19 : decode cX1_placeInLine 19 = .ok (.aload_n 0, 1) := by decide +kernel
theorem dX1_placeInLine_20 : decode cX1_placeInLine 20 = .ok (.getfield 10, 3) := by decide +kernel
theorem dX1_placeInLine_23 : decode cX1_placeInLine 23 = .ok (.iload_n 1, 1) := by decide +kernel
theorem dX1_placeInLine_24 : decode cX1_placeInLine 24 = .ok (.invokevirtual 97, 3) := by decide +kernel
theorem dX1_placeInLine_27 : decode cX1_placeInLine 27 = .ok (.ireturn, 1) := by decide +kernel
set_option maxRecDepth 20000 in
theorem ggX1_searchTime_X1_requireTraveller : GoodIn wsX1_searchTime wsX1_requireTraveller := goodIn_ca (goodIn_r _ [6, 7, 8, 1, 9, 10, 11, 12, 13, 14, 26, 27, 28, 29, 30, 31, 32, 33, 34, 35, 36, 37, 38, 39, 40, 41, 42] (by decide +kernel) (by decide +kernel)) (goodIn_sub (fun _ h => List.mem_cons_of_mem _ (List.mem_append_right _ h)) (by decide +kernel))
set_option maxRecDepth 20000 in
theorem gX1_searchTime_X1_requireTraveller : GoodIn wsX1_searchTime (wsV RX1 49 RX1 yX1_requireTraveller wsX1_requireTraveller) := goodIn_app (goodIn_of _ (by decide +kernel)) ggX1_searchTime_X1_requireTraveller
set_option maxRecDepth 20000 in
theorem ggX1_searchTime_X0_searchMinutes : GoodIn wsX1_searchTime wsX0_searchMinutes := goodIn_r _ [18, 19, 20, 21, 22, 12, 23, 14, 24, 25, 28, 29, 30, 31, 32, 33, 34, 35, 36, 37, 38, 39, 40, 41, 42] (by decide +kernel) (by decide +kernel)
set_option maxRecDepth 20000 in
theorem gX1_searchTime_X0_searchMinutes : GoodIn wsX1_searchTime (wsV RX1 100 RX0 yX0_searchMinutes wsX0_searchMinutes) := goodIn_app (goodIn_of _ (by decide +kernel)) ggX1_searchTime_X0_searchMinutes
theorem dX1_searchTime_0 : decode cX1_searchTime 0 = .ok (.aload_n 0, 1) := by decide +kernel
theorem dX1_searchTime_1 : decode cX1_searchTime 1 = .ok (.iload_n 1, 1) := by decide +kernel
theorem dX1_searchTime_2 : decode cX1_searchTime 2 = .ok (.invokevirtual 49, 3) := by decide +kernel
theorem dX1_searchTime_5 : decode cX1_searchTime 5 = .ok (.aload_n 0, 1) := by decide +kernel
theorem dX1_searchTime_6 : decode cX1_searchTime 6 = .ok (.getfield 10, 3) := by decide +kernel
theorem dX1_searchTime_9 : decode cX1_searchTime 9 = .ok (.iload_n 1, 1) := by decide +kernel
theorem dX1_searchTime_10 : decode cX1_searchTime 10 = .ok (.invokevirtual 100, 3) := by decide +kernel
theorem dX1_searchTime_13 : decode cX1_searchTime 13 = .ok (.ireturn, 1) := by decide +kernel
theorem dX1_guards_0 : decode cX1_guards 0 = .ok (.aload_n 0, 1) := by decide +kernel
theorem dX1_guards_1 : decode cX1_guards 1 = .ok (.getfield 10, 3) := by decide +kernel
theorem dX1_guards_4 : decode cX1_guards 4 = .ok (.getfield 19, 3) := by decide +kernel
theorem dX1_guards_7 : decode cX1_guards 7 = .ok (.ireturn, 1) := by decide +kernel
set_option maxRecDepth 20000 in
theorem ggX1_alertnessOf_X1_requireGuard : GoodIn wsX1_alertnessOf wsX1_requireGuard := goodIn_ca (goodIn_r _ [7, 8, 9, 1, 10, 11, 12, 13, 14, 15, 16, 17, 18, 19, 20, 21, 22, 23, 24, 25, 26, 27, 28, 29, 30, 31, 32] (by decide +kernel) (by decide +kernel)) (goodIn_sub (fun _ h => List.mem_cons_of_mem _ (List.mem_append_right _ h)) (by decide +kernel))
set_option maxRecDepth 20000 in
theorem gX1_alertnessOf_X1_requireGuard : GoodIn wsX1_alertnessOf (wsV RX1 62 RX1 yX1_requireGuard wsX1_requireGuard) := goodIn_app (goodIn_of _ (by decide +kernel)) ggX1_alertnessOf_X1_requireGuard
theorem dX1_alertnessOf_0 : decode cX1_alertnessOf 0 = .ok (.aload_n 0, 1) := by decide +kernel
theorem dX1_alertnessOf_1 : decode cX1_alertnessOf 1 = .ok (.iload_n 1, 1) := by decide +kernel
theorem dX1_alertnessOf_2 : decode cX1_alertnessOf 2 = .ok (.invokevirtual 62, 3) := by decide +kernel
theorem dX1_alertnessOf_5 : decode cX1_alertnessOf 5 = .ok (.aload_n 0, 1) := by decide +kernel
theorem dX1_alertnessOf_6 : decode cX1_alertnessOf 6 = .ok (.getfield 10, 3) := by decide +kernel
theorem dX1_alertnessOf_9 : decode cX1_alertnessOf 9 = .ok (.getfield 65, 3) := by decide +kernel
theorem dX1_alertnessOf_12 : decode cX1_alertnessOf 12 = .ok (.iload_n 1, 1) := by decide +kernel
theorem dX1_alertnessOf_13 : decode cX1_alertnessOf 13 = .ok (.iaload, 1) := by decide +kernel
theorem dX1_alertnessOf_14 : decode cX1_alertnessOf 14 = .ok (.ireturn, 1) := by decide +kernel
set_option maxRecDepth 20000 in
theorem ggX1_searches_X1_requireGuard : GoodIn wsX1_searches wsX1_requireGuard := goodIn_ca (goodIn_r _ [7, 8, 9, 1, 10, 11, 12, 13, 14, 15, 16, 17, 18, 19, 20, 21, 22, 23, 24, 25, 26, 27, 28, 29, 30, 31, 32] (by decide +kernel) (by decide +kernel)) (goodIn_sub (fun _ h => List.mem_cons_of_mem _ (List.mem_append_right _ h)) (by decide +kernel))
set_option maxRecDepth 20000 in
theorem gX1_searches_X1_requireGuard : GoodIn wsX1_searches (wsV RX1 62 RX1 yX1_requireGuard wsX1_requireGuard) := goodIn_app (goodIn_of _ (by decide +kernel)) ggX1_searches_X1_requireGuard
theorem dX1_searches_0 : decode cX1_searches 0 = .ok (.aload_n 0, 1) := by decide +kernel
theorem dX1_searches_1 : decode cX1_searches 1 = .ok (.iload_n 1, 1) := by decide +kernel
theorem dX1_searches_2 : decode cX1_searches 2 = .ok (.invokevirtual 62, 3) := by decide +kernel
theorem dX1_searches_5 : decode cX1_searches 5 = .ok (.aload_n 0, 1) := by decide +kernel
theorem dX1_searches_6 : decode cX1_searches 6 = .ok (.getfield 10, 3) := by decide +kernel
theorem dX1_searches_9 : decode cX1_searches 9 = .ok (.getfield 103, 3) := by decide +kernel
theorem dX1_searches_12 : decode cX1_searches 12 = .ok (.iload_n 1, 1) := by decide +kernel
theorem dX1_searches_13 : decode cX1_searches 13 = .ok (.iaload, 1) := by decide +kernel
theorem dX1_searches_14 : decode cX1_searches 14 = .ok (.ireturn, 1) := by decide +kernel
set_option maxRecDepth 20000 in
theorem ggX1_minutesToGo_X1_requireGuard : GoodIn wsX1_minutesToGo wsX1_requireGuard := goodIn_ca (goodIn_r _ [7, 8, 9, 1, 10, 11, 12, 13, 14, 15, 16, 17, 18, 19, 20, 21, 22, 23, 24, 25, 26, 27, 28, 29, 30, 31, 32] (by decide +kernel) (by decide +kernel)) (goodIn_sub (fun _ h => List.mem_cons_of_mem _ (List.mem_append_right _ h)) (by decide +kernel))
set_option maxRecDepth 20000 in
theorem gX1_minutesToGo_X1_requireGuard : GoodIn wsX1_minutesToGo (wsV RX1 62 RX1 yX1_requireGuard wsX1_requireGuard) := goodIn_app (goodIn_of _ (by decide +kernel)) ggX1_minutesToGo_X1_requireGuard
theorem dX1_minutesToGo_0 : decode cX1_minutesToGo 0 = .ok (.aload_n 0, 1) := by decide +kernel
theorem dX1_minutesToGo_1 : decode cX1_minutesToGo 1 = .ok (.iload_n 1, 1) := by decide +kernel
theorem dX1_minutesToGo_2 : decode cX1_minutesToGo 2 = .ok (.invokevirtual 62, 3) := by decide +kernel
theorem dX1_minutesToGo_5 : decode cX1_minutesToGo 5 = .ok (.aload_n 0, 1) := by decide +kernel
theorem dX1_minutesToGo_6 : decode cX1_minutesToGo 6 = .ok (.getfield 10, 3) := by decide +kernel
theorem dX1_minutesToGo_9 : decode cX1_minutesToGo 9 = .ok (.getfield 106, 3) := by decide +kernel
theorem dX1_minutesToGo_12 : decode cX1_minutesToGo 12 = .ok (.iload_n 1, 1) := by decide +kernel
theorem dX1_minutesToGo_13 : decode cX1_minutesToGo 13 = .ok (.iaload, 1) := by decide +kernel
theorem dX1_minutesToGo_14 : decode cX1_minutesToGo 14 = .ok (.ireturn, 1) := by decide +kernel
set_option maxRecDepth 20000 in
theorem ggX1_wouldFind_X1_requireGuard : GoodIn wsX1_wouldFind wsX1_requireGuard := goodIn_ca (goodIn_r _ [6, 7, 8, 1, 9, 10, 11, 12, 13, 14, 35, 36, 37, 38, 39, 40, 41, 42, 43, 44, 45, 46, 47, 48, 49, 50, 51] (by decide +kernel) (by decide +kernel)) (goodIn_sub (fun _ h => List.mem_cons_of_mem _ (List.mem_append_right _ h)) (by decide +kernel))
set_option maxRecDepth 20000 in
theorem gX1_wouldFind_X1_requireGuard : GoodIn wsX1_wouldFind (wsV RX1 62 RX1 yX1_requireGuard wsX1_requireGuard) := goodIn_app (goodIn_of _ (by decide +kernel)) ggX1_wouldFind_X1_requireGuard
set_option maxRecDepth 20000 in
theorem ggX1_wouldFind_X1_requireTraveller : GoodIn wsX1_wouldFind wsX1_requireTraveller := goodIn_ca (goodIn_r _ [18, 7, 8, 1, 19, 20, 21, 12, 22, 23, 35, 36, 37, 38, 39, 40, 41, 42, 43, 44, 45, 46, 47, 48, 49, 50, 51] (by decide +kernel) (by decide +kernel)) (goodIn_sub (fun _ h => List.mem_cons_of_mem _ (List.mem_append_right _ h)) (by decide +kernel))
set_option maxRecDepth 20000 in
theorem gX1_wouldFind_X1_requireTraveller : GoodIn wsX1_wouldFind (wsV RX1 49 RX1 yX1_requireTraveller wsX1_requireTraveller) := goodIn_app (goodIn_of _ (by decide +kernel)) ggX1_wouldFind_X1_requireTraveller
set_option maxRecDepth 20000 in
theorem ggX1_wouldFind_X0_finds : GoodIn wsX1_wouldFind wsX0_finds := goodIn_r _ [27, 28, 29, 30, 31, 12, 32, 33, 34, 37, 38, 39, 40, 41, 42, 43, 44, 45, 46, 47, 48, 49, 50, 51] (by decide +kernel) (by decide +kernel)
set_option maxRecDepth 20000 in
theorem gX1_wouldFind_X0_finds : GoodIn wsX1_wouldFind (wsV RX1 109 RX0 yX0_finds wsX0_finds) := goodIn_app (goodIn_of _ (by decide +kernel)) ggX1_wouldFind_X0_finds
theorem dX1_wouldFind_0 : decode cX1_wouldFind 0 = .ok (.aload_n 0, 1) := by decide +kernel
theorem dX1_wouldFind_1 : decode cX1_wouldFind 1 = .ok (.iload_n 1, 1) := by decide +kernel
theorem dX1_wouldFind_2 : decode cX1_wouldFind 2 = .ok (.invokevirtual 62, 3) := by decide +kernel
theorem dX1_wouldFind_5 : decode cX1_wouldFind 5 = .ok (.aload_n 0, 1) := by decide +kernel
theorem dX1_wouldFind_6 : decode cX1_wouldFind 6 = .ok (.iload_n 2, 1) := by decide +kernel
theorem dX1_wouldFind_7 : decode cX1_wouldFind 7 = .ok (.invokevirtual 49, 3) := by decide +kernel
theorem dX1_wouldFind_10 : decode cX1_wouldFind 10 = .ok (.aload_n 0, 1) := by decide +kernel
theorem dX1_wouldFind_11 : decode cX1_wouldFind 11 = .ok (.getfield 10, 3) := by decide +kernel
theorem dX1_wouldFind_14 : decode cX1_wouldFind 14 = .ok (.iload_n 1, 1) := by decide +kernel
theorem dX1_wouldFind_15 : decode cX1_wouldFind 15 = .ok (.iload_n 2, 1) := by decide +kernel
theorem dX1_wouldFind_16 : decode cX1_wouldFind 16 = .ok (.invokevirtual 109, 3) := by decide +kernel
theorem dX1_wouldFind_19 : decode cX1_wouldFind 19 = .ok (.ireturn, 1) := by decide +kernel
theorem dX1_mostAlert_0 : decode cX1_mostAlert 0 = .ok (.iconst (-1), 1) := by decide +kernel
theorem dX1_mostAlert_1 : decode cX1_mostAlert 1 = .ok (.istore_n 1, 1) := by decide +kernel
theorem dX1_mostAlert_2 : decode cX1_mostAlert 2 = .ok (.iconst (-1), 1) := by decide +kernel
theorem dX1_mostAlert_3 : decode cX1_mostAlert 3 = .ok (.istore_n 2, 1) := by decide +kernel
theorem dX1_mostAlert_4 : decode cX1_mostAlert 4 = .ok (.iconst 0, 1) := by decide +kernel
theorem dX1_mostAlert_5 : decode cX1_mostAlert 5 = .ok (.istore_n 3, 1) := by decide +kernel
theorem dX1_mostAlert_6 : decode cX1_mostAlert 6 = .ok (.iload_n 3, 1) := by decide +kernel
theorem dX1_mostAlert_7 : decode cX1_mostAlert 7 = .ok (.aload_n 0, 1) := by decide +kernel
theorem dX1_mostAlert_8 : decode cX1_mostAlert 8 = .ok (.getfield 10, 3) := by decide +kernel
theorem dX1_mostAlert_11 : decode cX1_mostAlert 11 = .ok (.getfield 19, 3) := by decide +kernel
theorem dX1_mostAlert_14 : decode cX1_mostAlert 14 = .ok (.if_icmp .ge 34, 3) := by decide +kernel
theorem dX1_mostAlert_17 : decode cX1_mostAlert 17 = .ok (.aload_n 0, 1) := by decide +kernel
theorem dX1_mostAlert_18 : decode cX1_mostAlert 18 = .ok (.getfield 10, 3) := by decide +kernel
theorem dX1_mostAlert_21 : decode cX1_mostAlert 21 = .ok (.getfield 65, 3) := by decide +kernel
theorem dX1_mostAlert_24 : decode cX1_mostAlert 24 = .ok (.iload_n 3, 1) := by decide +kernel
theorem dX1_mostAlert_25 : decode cX1_mostAlert 25 = .ok (.iaload, 1) := by decide +kernel
theorem dX1_mostAlert_26 : decode cX1_mostAlert 26 = .ok (.iload_n 2, 1) := by decide +kernel
theorem dX1_mostAlert_27 : decode cX1_mostAlert 27 = .ok (.if_icmp .le 15, 3) := by decide +kernel
theorem dX1_mostAlert_30 : decode cX1_mostAlert 30 = .ok (.iload_n 3, 1) := by decide +kernel
theorem dX1_mostAlert_31 : decode cX1_mostAlert 31 = .ok (.istore_n 1, 1) := by decide +kernel
theorem dX1_mostAlert_32 : decode cX1_mostAlert 32 = .ok (.aload_n 0, 1) := by decide +kernel
theorem dX1_mostAlert_33 : decode cX1_mostAlert 33 = .ok (.getfield 10, 3) := by decide +kernel
theorem dX1_mostAlert_36 : decode cX1_mostAlert 36 = .ok (.getfield 65, 3) := by decide +kernel
theorem dX1_mostAlert_39 : decode cX1_mostAlert 39 = .ok (.iload_n 3, 1) := by decide +kernel
theorem dX1_mostAlert_40 : decode cX1_mostAlert 40 = .ok (.iaload, 1) := by decide +kernel
theorem dX1_mostAlert_41 : decode cX1_mostAlert 41 = .ok (.istore_n 2, 1) := by decide +kernel
theorem dX1_mostAlert_42 : decode cX1_mostAlert 42 = .ok (.iinc 3 1, 3) := by decide +kernel
theorem dX1_mostAlert_45 : decode cX1_mostAlert 45 = .ok (.goto (-39), 3) := by decide +kernel
theorem dX1_mostAlert_48 : decode cX1_mostAlert 48 = .ok (.iload_n 1, 1) := by decide +kernel
theorem dX1_mostAlert_49 : decode cX1_mostAlert 49 = .ok (.ireturn, 1) := by decide +kernel
theorem dX1_meanAlertness_0 : decode cX1_meanAlertness 0 = .ok (.aload_n 0, 1) := by decide +kernel
theorem dX1_meanAlertness_1 : decode cX1_meanAlertness 1 = .ok (.getfield 10, 3) := by decide +kernel
theorem dX1_meanAlertness_4 : decode cX1_meanAlertness 4 = .ok (.getfield 19, 3) := by decide +kernel
theorem dX1_meanAlertness_7 : decode cX1_meanAlertness 7 = .ok (.ifCond .ne 5, 3) := by decide +kernel
theorem dX1_meanAlertness_10 : decode cX1_meanAlertness 10 = .ok (.dconst 0, 1) := by decide +kernel
theorem dX1_meanAlertness_11 : decode cX1_meanAlertness 11 = .ok (.dreturn, 1) := by decide +kernel
theorem dX1_meanAlertness_12 : decode cX1_meanAlertness 12 = .ok (.iconst 0, 1) := by decide +kernel
theorem dX1_meanAlertness_13 : decode cX1_meanAlertness 13 = .ok (.istore_n 1, 1) := by decide +kernel
theorem dX1_meanAlertness_14 : decode cX1_meanAlertness 14 = .ok (.iconst 0, 1) := by decide +kernel
theorem dX1_meanAlertness_15 : decode cX1_meanAlertness 15 = .ok (.istore_n 2, 1) := by decide +kernel
theorem dX1_meanAlertness_16 : decode cX1_meanAlertness 16 = .ok (.iload_n 2, 1) := by decide +kernel
theorem dX1_meanAlertness_17 : decode cX1_meanAlertness 17 = .ok (.aload_n 0, 1) := by decide +kernel
theorem dX1_meanAlertness_18 : decode cX1_meanAlertness 18 = .ok (.getfield 10, 3) := by decide +kernel
theorem dX1_meanAlertness_21 : decode cX1_meanAlertness 21 = .ok (.getfield 19, 3) := by decide +kernel
theorem dX1_meanAlertness_24 : decode cX1_meanAlertness 24 = .ok (.if_icmp .ge 21, 3) := by decide +kernel
theorem dX1_meanAlertness_27 : decode cX1_meanAlertness 27 = .ok (.iload_n 1, 1) := by decide +kernel
theorem dX1_meanAlertness_28 : decode cX1_meanAlertness 28 = .ok (.aload_n 0, 1) := by decide +kernel
theorem dX1_meanAlertness_29 : decode cX1_meanAlertness 29 = .ok (.getfield 10, 3) := by decide +kernel
theorem dX1_meanAlertness_32 : decode cX1_meanAlertness 32 = .ok (.getfield 65, 3) := by decide +kernel
theorem dX1_meanAlertness_35 : decode cX1_meanAlertness 35 = .ok (.iload_n 2, 1) := by decide +kernel
theorem dX1_meanAlertness_36 : decode cX1_meanAlertness 36 = .ok (.iaload, 1) := by decide +kernel
theorem dX1_meanAlertness_37 : decode cX1_meanAlertness 37 = .ok (.iadd, 1) := by decide +kernel
theorem dX1_meanAlertness_38 : decode cX1_meanAlertness 38 = .ok (.istore_n 1, 1) := by decide +kernel
theorem dX1_meanAlertness_39 : decode cX1_meanAlertness 39 = .ok (.iinc 2 1, 3) := by decide +kernel
theorem dX1_meanAlertness_42 : decode cX1_meanAlertness 42 = .ok (.goto (-26), 3) := by decide +kernel
theorem dX1_meanAlertness_45 : decode cX1_meanAlertness 45 = .ok (.iload_n 1, 1) := by decide +kernel
theorem dX1_meanAlertness_46 : decode cX1_meanAlertness 46 = .ok (.i2d, 1) := by decide +kernel
theorem dX1_meanAlertness_47 : decode cX1_meanAlertness 47 = .ok (.aload_n 0, 1) := by decide +kernel
theorem dX1_meanAlertness_48 : decode cX1_meanAlertness 48 = .ok (.getfield 10, 3) := by decide +kernel
theorem dX1_meanAlertness_51 : decode cX1_meanAlertness 51 = .ok (.getfield 19, 3) := by decide +kernel
theorem dX1_meanAlertness_54 : decode cX1_meanAlertness 54 = .ok (.i2d, 1) := by decide +kernel
theorem dX1_meanAlertness_55 : decode cX1_meanAlertness 55 = .ok (.ddiv, 1) := by decide +kernel
theorem dX1_meanAlertness_56 : decode cX1_meanAlertness 56 = .ok (.dreturn, 1) := by decide +kernel
set_option maxRecDepth 20000 in
theorem ggX1_requireTraveller_X0_isTraveller : GoodIn wsX1_requireTraveller wsX0_isTraveller := goodIn_r _ [8, 9, 12, 13, 14, 15, 16, 17, 18, 19, 20, 21, 22, 23, 24, 25, 26] (by decide +kernel) (by decide +kernel)
set_option maxRecDepth 20000 in
theorem gX1_requireTraveller_X0_isTraveller : GoodIn wsX1_requireTraveller (wsV RX1 204 RX0 yX0_isTraveller wsX0_isTraveller) := goodIn_app (goodIn_of _ (by decide +kernel)) ggX1_requireTraveller_X0_isTraveller
theorem dX1_requireTraveller_0 : decode cX1_requireTraveller 0 = .ok (.aload_n 0, 1) := by decide +kernel
theorem dX1_requireTraveller_1 : decode cX1_requireTraveller 1 = .ok (.getfield 10, 3) := by decide +kernel
theorem dX1_requireTraveller_4 : decode cX1_requireTraveller 4 = .ok (.iload_n 1, 1) := by decide +kernel
theorem dX1_requireTraveller_5 : decode cX1_requireTraveller 5 = .ok (.invokevirtual 204, 3) := by decide +kernel
theorem dX1_requireTraveller_8 : decode cX1_requireTraveller 8 = .ok (.ifCond .ne 13, 3) := by decide +kernel
theorem dX1_requireTraveller_11 : decode cX1_requireTraveller 11 = .ok (.new 208, 3) := by decide +kernel
theorem dX1_requireTraveller_14 : decode cX1_requireTraveller 14 = .ok (.dup, 1) := by decide +kernel
theorem dX1_requireTraveller_15 : decode cX1_requireTraveller 15 = .ok (.ldc 210, 2) := by decide +kernel
theorem dX1_requireTraveller_17 : decode cX1_requireTraveller 17 = .ok (.invokespecial 212, 3) := by decide +kernel
theorem dX1_requireTraveller_20 : decode cX1_requireTraveller 20 = .ok (.athrow, 1) := by decide +kernel
theorem dX1_requireTraveller_21 : decode cX1_requireTraveller 21 = .ok (.return_, 1) := by decide +kernel
set_option maxRecDepth 20000 in
theorem ggX1_requireGuard_X0_isGuard : GoodIn wsX1_requireGuard wsX0_isGuard := goodIn_r _ [8, 9, 12, 13, 14, 15, 16, 17, 18, 19, 20, 21, 22, 23, 24, 25, 26] (by decide +kernel) (by decide +kernel)
set_option maxRecDepth 20000 in
theorem gX1_requireGuard_X0_isGuard : GoodIn wsX1_requireGuard (wsV RX1 213 RX0 yX0_isGuard wsX0_isGuard) := goodIn_app (goodIn_of _ (by decide +kernel)) ggX1_requireGuard_X0_isGuard
theorem dX1_requireGuard_0 : decode cX1_requireGuard 0 = .ok (.aload_n 0, 1) := by decide +kernel
theorem dX1_requireGuard_1 : decode cX1_requireGuard 1 = .ok (.getfield 10, 3) := by decide +kernel
theorem dX1_requireGuard_4 : decode cX1_requireGuard 4 = .ok (.iload_n 1, 1) := by decide +kernel
theorem dX1_requireGuard_5 : decode cX1_requireGuard 5 = .ok (.invokevirtual 213, 3) := by decide +kernel
theorem dX1_requireGuard_8 : decode cX1_requireGuard 8 = .ok (.ifCond .ne 13, 3) := by decide +kernel
theorem dX1_requireGuard_11 : decode cX1_requireGuard 11 = .ok (.new 208, 3) := by decide +kernel
theorem dX1_requireGuard_14 : decode cX1_requireGuard 14 = .ok (.dup, 1) := by decide +kernel
theorem dX1_requireGuard_15 : decode cX1_requireGuard 15 = .ok (.ldc 216, 2) := by decide +kernel
theorem dX1_requireGuard_17 : decode cX1_requireGuard 17 = .ok (.invokespecial 212, 3) := by decide +kernel
theorem dX1_requireGuard_20 : decode cX1_requireGuard 20 = .ok (.athrow, 1) := by decide +kernel
theorem dX1_requireGuard_21 : decode cX1_requireGuard 21 = .ok (.return_, 1) := by decide +kernel
theorem dX1_requireDigit_0 : decode cX1_requireDigit 0 = .ok (.iload_n 0, 1) := by decide +kernel
theorem dX1_requireDigit_1 : decode cX1_requireDigit 1 = .ok (.ifCond .lt 9, 3) := by decide +kernel
theorem dX1_requireDigit_4 : decode cX1_requireDigit 4 = .ok (.iload_n 0, 1) := by decide +kernel
theorem dX1_requireDigit_5 : decode cX1_requireDigit 5 = .ok (.bipush 9, 2) := by decide +kernel
theorem dX1_requireDigit_7 : decode cX1_requireDigit 7 = .ok (.if_icmp .le 13, 3) := by decide +kernel
theorem dX1_requireDigit_10 : decode cX1_requireDigit 10 = .ok (.new 218, 3) := by decide +kernel
theorem dX1_requireDigit_13 : decode cX1_requireDigit 13 = .ok (.dup, 1) := by decide +kernel
theorem dX1_requireDigit_14 : decode cX1_requireDigit 14 = .ok (.ldc 220, 2) := by decide +kernel
theorem dX1_requireDigit_16 : decode cX1_requireDigit 16 = .ok (.invokespecial 222, 3) := by decide +kernel
theorem dX1_requireDigit_19 : decode cX1_requireDigit 19 = .ok (.athrow, 1) := by decide +kernel
theorem dX1_requireDigit_20 : decode cX1_requireDigit 20 = .ok (.return_, 1) := by decide +kernel
theorem dX1_requireMinutes_0 : decode cX1_requireMinutes 0 = .ok (.iload_n 0, 1) := by decide +kernel
theorem dX1_requireMinutes_1 : decode cX1_requireMinutes 1 = .ok (.iconst 1, 1) := by decide +kernel
theorem dX1_requireMinutes_2 : decode cX1_requireMinutes 2 = .ok (.if_icmp .lt 9, 3) := by decide +kernel
theorem dX1_requireMinutes_5 : decode cX1_requireMinutes 5 = .ok (.iload_n 0, 1) := by decide +kernel
theorem dX1_requireMinutes_6 : decode cX1_requireMinutes 6 = .ok (.bipush 60, 2) := by decide +kernel
theorem dX1_requireMinutes_8 : decode cX1_requireMinutes 8 = .ok (.if_icmp .le 13, 3) := by decide +kernel
theorem dX1_requireMinutes_11 : decode cX1_requireMinutes 11 = .ok (.new 218, 3) := by decide +kernel
theorem dX1_requireMinutes_14 : decode cX1_requireMinutes 14 = .ok (.dup, 1) := by decide +kernel
theorem dX1_requireMinutes_15 : decode cX1_requireMinutes 15 = .ok (.ldc 223, 2) := by decide +kernel
theorem dX1_requireMinutes_17 : decode cX1_requireMinutes 17 = .ok (.invokespecial 222, 3) := by decide +kernel
theorem dX1_requireMinutes_20 : decode cX1_requireMinutes 20 = .ok (.athrow, 1) := by decide +kernel
theorem dX1_requireMinutes_21 : decode cX1_requireMinutes 21 = .ok (.return_, 1) := by decide +kernel
theorem dX1_requireWaiting_0 : decode cX1_requireWaiting 0 = .ok (.aload_n 0, 1) := by decide +kernel
theorem dX1_requireWaiting_1 : decode cX1_requireWaiting 1 = .ok (.getfield 10, 3) := by decide +kernel
theorem dX1_requireWaiting_4 : decode cX1_requireWaiting 4 = .ok (.getfield 91, 3) := by decide +kernel
theorem dX1_requireWaiting_7 : decode cX1_requireWaiting 7 = .ok (.iload_n 1, 1) := by decide +kernel
theorem dX1_requireWaiting_8 : decode cX1_requireWaiting 8 = .ok (.iaload, 1) := by decide +kernel
theorem dX1_requireWaiting_9 : decode cX1_requireWaiting 9 = .ok (.ifCond .eq 13, 3) := by decide +kernel
theorem dX1_requireWaiting_12 : decode cX1_requireWaiting 12 = .ok (.new 23, 3) := by decide +kernel
theorem dX1_requireWaiting_15 : decode cX1_requireWaiting 15 = .ok (.dup, 1) := by decide +kernel
theorem dX1_requireWaiting_16 : decode cX1_requireWaiting 16 = .ok (.ldc 225, 2) := by decide +kernel
theorem dX1_requireWaiting_18 : decode cX1_requireWaiting 18 = .ok (.invokespecial 27, 3) := by decide +kernel
theorem dX1_requireWaiting_21 : decode cX1_requireWaiting 21 = .ok (.athrow, 1) := by decide +kernel
theorem dX1_requireWaiting_22 : decode cX1_requireWaiting 22 = .ok (.return_, 1) := by decide +kernel
end
section
theorem dX2_init_0 : decode cX2_init 0 = .ok (.aload_n 0, 1) := by decide +kernel
theorem dX2_init_1 : decode cX2_init 1 = .ok (.invokespecial 1, 3) := by decide +kernel
theorem dX2_init_4 : decode cX2_init 4 = .ok (.aload_n 0, 1) := by decide +kernel
theorem dX2_init_5 : decode cX2_init 5 = .ok (.iconst 0, 1) := by decide +kernel
theorem dX2_init_6 : decode cX2_init 6 = .ok (.anewarray 7, 3) := by decide +kernel
theorem dX2_init_9 : decode cX2_init 9 = .ok (.putfield 9, 3) := by decide +kernel
theorem dX2_init_12 : decode cX2_init 12 = .ok (.aload_n 0, 1) := by decide +kernel
theorem dX2_init_13 : decode cX2_init 13 = .ok (.iconst 0, 1) := by decide +kernel
theorem dX2_init_14 : decode cX2_init 14 = .ok (.anewarray 7, 3) := by decide +kernel
theorem dX2_init_17 : decode cX2_init 17 = .ok (.putfield 15, 3) := by decide +kernel
theorem dX2_init_20 : decode cX2_init 20 = .ok (.return_, 1) := by decide +kernel
theorem dX2_with_0 : decode cX2_with 0 = .ok (.aload_n 0, 1) := by decide +kernel
theorem dX2_with_1 : decode cX2_with 1 = .ok (.arraylength, 1) := by decide +kernel
theorem dX2_with_2 : decode cX2_with 2 = .ok (.iconst 1, 1) := by decide +kernel
theorem dX2_with_3 : decode cX2_with 3 = .ok (.iadd, 1) := by decide +kernel
theorem dX2_with_4 : decode cX2_with 4 = .ok (.anewarray 7, 3) := by decide +kernel
theorem dX2_with_7 : decode cX2_with 7 = .ok (.astore_n 2, 1) := by decide +kernel
theorem dX2_with_8 : decode cX2_with 8 = .ok (.iconst 0, 1) := by decide +kernel
theorem dX2_with_9 : decode cX2_with 9 = .ok (.istore_n 3, 1) := by decide +kernel
theorem dX2_with_10 : decode cX2_with 10 = .ok (.iload_n 3, 1) := by decide +kernel
theorem dX2_with_11 : decode cX2_with 11 = .ok (.aload_n 0, 1) := by decide +kernel
theorem dX2_with_12 : decode cX2_with 12 = .ok (.arraylength, 1) := by decide +kernel
theorem dX2_with_13 : decode cX2_with 13 = .ok (.if_icmp .ge 15, 3) := by decide +kernel
theorem dX2_with_16 : decode cX2_with 16 = .ok (.aload_n 2, 1) := by decide +kernel
theorem dX2_with_17 : decode cX2_with 17 = .ok (.iload_n 3, 1) := by decide +kernel
theorem dX2_with_18 : decode cX2_with 18 = .ok (.aload_n 0, 1) := by decide +kernel
theorem dX2_with_19 : decode cX2_with 19 = .ok (.iload_n 3, 1) := by decide +kernel
theorem dX2_with_20 : decode cX2_with 20 = .ok (.aaload, 1) := by decide +kernel
theorem dX2_with_21 : decode cX2_with 21 = .ok (.aastore, 1) := by decide +kernel
theorem dX2_with_22 : decode cX2_with 22 = .ok (.iinc 3 1, 3) := by decide +kernel
theorem dX2_with_25 : decode cX2_with 25 = .ok (.goto (-15), 3) := by decide +kernel
theorem dX2_with_28 : decode cX2_with 28 = .ok (.aload_n 2, 1) := by decide +kernel
theorem dX2_with_29 : decode cX2_with 29 = .ok (.aload_n 0, 1) := by decide +kernel
theorem dX2_with_30 : decode cX2_with 30 = .ok (.arraylength, 1) := by decide +kernel
theorem dX2_with_31 : decode cX2_with 31 = .ok (.aload_n 1, 1) := by decide +kernel
theorem dX2_with_32 : decode cX2_with 32 = .ok (.aastore, 1) := by decide +kernel
theorem dX2_with_33 : decode cX2_with 33 = .ok (.aload_n 2, 1) := by decide +kernel
theorem dX2_with_34 : decode cX2_with 34 = .ok (.areturn, 1) := by decide +kernel
theorem dX2_noise_0 : decode cX2_noise 0 = .ok (.iconst 0, 1) := by decide +kernel
theorem dX2_noise_1 : decode cX2_noise 1 = .ok (.istore_n 1, 1) := by decide +kernel
theorem dX2_noise_2 : decode cX2_noise 2 = .ok (.aload_n 0, 1) := by decide +kernel
theorem dX2_noise_3 : decode cX2_noise 3 = .ok (.getfield 15, 3) := by decide +kernel
theorem dX2_noise_6 : decode cX2_noise 6 = .ok (.astore_n 2, 1) := by decide +kernel
theorem dX2_noise_7 : decode cX2_noise 7 = .ok (.aload_n 2, 1) := by decide +kernel
theorem dX2_noise_8 : decode cX2_noise 8 = .ok (.arraylength, 1) := by decide +kernel
theorem dX2_noise_9 : decode cX2_noise 9 = .ok (.istore_n 3, 1) := by decide +kernel
theorem dX2_noise_10 : decode cX2_noise 10 = .ok (.iconst 0, 1) := by decide +kernel
theorem dX2_noise_11 : decode cX2_noise 11 = .ok (.istore 4, 2) := by decide +kernel
theorem dX2_noise_13 : decode cX2_noise 13 = .ok (.iload 4, 2) := by decide +kernel
theorem dX2_noise_15 : decode cX2_noise 15 = .ok (.iload_n 3, 1) := by decide +kernel
theorem dX2_noise_16 : decode cX2_noise 16 = .ok (.if_icmp .ge 30, 3) := by decide +kernel
theorem dX2_noise_19 : decode cX2_noise 19 = .ok (.aload_n 2, 1) := by decide +kernel
theorem dX2_noise_20 : decode cX2_noise 20 = .ok (.iload 4, 2) := by decide +kernel
theorem dX2_noise_22 : decode cX2_noise 22 = .ok (.aaload, 1) := by decide +kernel
theorem dX2_noise_23 : decode cX2_noise 23 = .ok (.astore 5, 2) := by decide +kernel
theorem dX2_noise_25 : decode cX2_noise 25 = .ok (.aload 5, 2) := by decide +kernel
theorem dX2_noise_27 : decode cX2_noise 27 = .ok (.iconst 4, 1) := by decide +kernel
theorem dX2_noise_28 : decode cX2_noise 28 = .ok (.iaload, 1) := by decide +kernel
theorem dX2_noise_29 : decode cX2_noise 29 = .ok (.iconst 2, 1) := by decide +kernel
theorem dX2_noise_30 : decode cX2_noise 30 = .ok (.if_icmp .ne 10, 3) := by decide +kernel
theorem dX2_noise_33 : decode cX2_noise 33 = .ok (.iload_n 1, 1) := by decide +kernel
theorem dX2_noise_34 : decode cX2_noise 34 = .ok (.aload 5, 2) := by decide +kernel
theorem dX2_noise_36 : decode cX2_noise 36 = .ok (.iconst 2, 1) := by decide +kernel
theorem dX2_noise_37 : decode cX2_noise 37 = .ok (.iaload, 1) := by decide +kernel
theorem dX2_noise_38 : decode cX2_noise 38 = .ok (.iadd, 1) := by decide +kernel
theorem dX2_noise_39 : decode cX2_noise 39 = .ok (.istore_n 1, 1) := by decide +kernel
theorem dX2_noise_40 : decode cX2_noise 40 = .ok (.iinc 4 1, 3) := by decide +kernel
theorem dX2_noise_43 : decode cX2_noise 43 = .ok (.goto (-30), 3) := by decide +kernel
theorem dX2_noise_46 : decode cX2_noise 46 = .ok (.iload_n 1, 1) := by decide +kernel
theorem dX2_noise_47 : decode cX2_noise 47 = .ok (.ireturn, 1) := by decide +kernel
theorem dX2_count_0 : decode cX2_count 0 = .ok (.iconst 0, 1) := by decide +kernel
theorem dX2_count_1 : decode cX2_count 1 = .ok (.istore_n 2, 1) := by decide +kernel
theorem dX2_count_2 : decode cX2_count 2 = .ok (.aload_n 0, 1) := by decide +kernel
theorem dX2_count_3 : decode cX2_count 3 = .ok (.getfield 15, 3) := by decide +kernel
theorem dX2_count_6 : decode cX2_count 6 = .ok (.astore_n 3, 1) := by decide +kernel
theorem dX2_count_7 : decode cX2_count 7 = .ok (.aload_n 3, 1) := by decide +kernel
theorem dX2_count_8 : decode cX2_count 8 = .ok (.arraylength, 1) := by decide +kernel
theorem dX2_count_9 : decode cX2_count 9 = .ok (.istore 4, 2) := by decide +kernel
theorem dX2_count_11 : decode cX2_count 11 = .ok (.iconst 0, 1) := by decide +kernel
theorem dX2_count_12 : decode cX2_count 12 = .ok (.istore 5, 2) := by decide +kernel
theorem dX2_count_14 : decode cX2_count 14 = .ok (.iload 5, 2) := by decide +kernel
theorem dX2_count_16 : decode cX2_count 16 = .ok (.iload 4, 2) := by decide +kernel
theorem dX2_count_18 : decode cX2_count 18 = .ok (.if_icmp .ge 26, 3) := by decide +kernel
theorem dX2_count_21 : decode cX2_count 21 = .ok (.aload_n 3, 1) := by decide +kernel
theorem dX2_count_22 : decode cX2_count 22 = .ok (.iload 5, 2) := by decide +kernel
theorem dX2_count_24 : decode cX2_count 24 = .ok (.aaload, 1) := by decide +kernel
theorem dX2_count_25 : decode cX2_count 25 = .ok (.astore 6, 2) := by decide +kernel
theorem dX2_count_27 : decode cX2_count 27 = .ok (.aload 6, 2) := by decide +kernel
theorem dX2_count_29 : decode cX2_count 29 = .ok (.iconst 4, 1) := by decide +kernel
theorem dX2_count_30 : decode cX2_count 30 = .ok (.iaload, 1) := by decide +kernel
theorem dX2_count_31 : decode cX2_count 31 = .ok (.iload_n 1, 1) := by decide +kernel
theorem dX2_count_32 : decode cX2_count 32 = .ok (.if_icmp .ne 6, 3) := by decide +kernel
theorem dX2_count_35 : decode cX2_count 35 = .ok (.iinc 2 1, 3) := by decide +kernel
theorem dX2_count_38 : decode cX2_count 38 = .ok (.iinc 5 1, 3) := by decide +kernel
theorem dX2_count_41 : decode cX2_count 41 = .ok (.goto (-27), 3) := by decide +kernel
theorem dX2_count_44 : decode cX2_count 44 = .ok (.iload_n 2, 1) := by decide +kernel
theorem dX2_count_45 : decode cX2_count 45 = .ok (.ireturn, 1) := by decide +kernel
theorem dX2_hidden_0 : decode cX2_hidden 0 = .ok (.aload_n 0, 1) := by decide +kernel
theorem dX2_hidden_1 : decode cX2_hidden 1 = .ok (.iconst 0, 1) := by decide +kernel
theorem dX2_hidden_2 : decode cX2_hidden 2 = .ok (.iaload, 1) := by decide +kernel
theorem dX2_hidden_3 : decode cX2_hidden 3 = .ok (.aload_n 0, 1) := by decide +kernel
theorem dX2_hidden_4 : decode cX2_hidden 4 = .ok (.iconst 1, 1) := by decide +kernel
theorem dX2_hidden_5 : decode cX2_hidden 5 = .ok (.iaload, 1) := by decide +kernel
theorem dX2_hidden_6 : decode cX2_hidden 6 = .ok (.if_icmp .le 13, 3) := by decide +kernel
theorem dX2_hidden_9 : decode cX2_hidden 9 = .ok (.aload_n 0, 1) := by decide +kernel
theorem dX2_hidden_10 : decode cX2_hidden 10 = .ok (.iconst 0, 1) := by decide +kernel
theorem dX2_hidden_11 : decode cX2_hidden 11 = .ok (.iaload, 1) := by decide +kernel
theorem dX2_hidden_12 : decode cX2_hidden 12 = .ok (.aload_n 0, 1) := by decide +kernel
theorem dX2_hidden_13 : decode cX2_hidden 13 = .ok (.iconst 1, 1) := by decide +kernel
theorem dX2_hidden_14 : decode cX2_hidden 14 = .ok (.iaload, 1) := by decide +kernel
theorem dX2_hidden_15 : decode cX2_hidden 15 = .ok (.isub, 1) := by decide +kernel
theorem dX2_hidden_16 : decode cX2_hidden 16 = .ok (.goto 4, 3) := by decide +kernel
theorem dX2_hidden_19 : decode cX2_hidden 19 = .ok (.iconst 0, 1) := by decide +kernel
theorem dX2_hidden_20 : decode cX2_hidden 20 = .ok (.ireturn, 1) := by decide +kernel
theorem dX2_next_0 : decode cX2_next 0 = .ok (.iconst 0, 1) := by decide +kernel
theorem dX2_next_1 : decode cX2_next 1 = .ok (.istore_n 1, 1) := by decide +kernel
theorem dX2_next_2 : decode cX2_next 2 = .ok (.iload_n 1, 1) := by decide +kernel
theorem dX2_next_3 : decode cX2_next 3 = .ok (.aload_n 0, 1) := by decide +kernel
theorem dX2_next_4 : decode cX2_next 4 = .ok (.getfield 15, 3) := by decide +kernel
theorem dX2_next_7 : decode cX2_next 7 = .ok (.arraylength, 1) := by decide +kernel
theorem dX2_next_8 : decode cX2_next 8 = .ok (.if_icmp .ge 20, 3) := by decide +kernel
theorem dX2_next_11 : decode cX2_next 11 = .ok (.aload_n 0, 1) := by decide +kernel
theorem dX2_next_12 : decode cX2_next 12 = .ok (.getfield 15, 3) := by decide +kernel
theorem dX2_next_15 : decode cX2_next 15 = .ok (.iload_n 1, 1) := by decide +kernel
theorem dX2_next_16 : decode cX2_next 16 = .ok (.aaload, 1) := by decide +kernel
theorem dX2_next_17 : decode cX2_next 17 = .ok (.iconst 4, 1) := by decide +kernel
theorem dX2_next_18 : decode cX2_next 18 = .ok (.iaload, 1) := by decide +kernel
theorem dX2_next_19 : decode cX2_next 19 = .ok (.ifCond .eq 9, 3) := by decide +kernel
theorem dX2_next_22 : decode cX2_next 22 = .ok (.iinc 1 1, 3) := by decide +kernel
theorem dX2_next_25 : decode cX2_next 25 = .ok (.goto (-23), 3) := by decide +kernel
theorem dX2_next_28 : decode cX2_next 28 = .ok (.iload_n 1, 1) := by decide +kernel
theorem dX2_next_29 : decode cX2_next 29 = .ok (.aload_n 0, 1) := by decide +kernel
theorem dX2_next_30 : decode cX2_next 30 = .ok (.getfield 15, 3) := by decide +kernel
theorem dX2_next_33 : decode cX2_next 33 = .ok (.arraylength, 1) := by decide +kernel
theorem dX2_next_34 : decode cX2_next 34 = .ok (.if_icmp .ne 7, 3) := by decide +kernel
theorem dX2_next_37 : decode cX2_next 37 = .ok (.iconst (-1), 1) := by decide +kernel
theorem dX2_next_38 : decode cX2_next 38 = .ok (.goto 4, 3) := by decide +kernel
theorem dX2_next_41 : decode cX2_next 41 = .ok (.iload_n 1, 1) := by decide +kernel
theorem dX2_next_42 : decode cX2_next 42 = .ok (.ireturn, 1) := by decide +kernel
theorem dX2_finds_0 : decode cX2_finds 0 = .ok (.aload_n 1, 1) := by decide +kernel
theorem dX2_finds_1 : decode cX2_finds 1 = .ok (.iconst 0, 1) := by decide +kernel
theorem dX2_finds_2 : decode cX2_finds 2 = .ok (.iaload, 1) := by decide +kernel
theorem dX2_finds_3 : decode cX2_finds 3 = .ok (.aload_n 1, 1) := by decide +kernel
theorem dX2_finds_4 : decode cX2_finds 4 = .ok (.iconst 1, 1) := by decide +kernel
theorem dX2_finds_5 : decode cX2_finds 5 = .ok (.iaload, 1) := by decide +kernel
theorem dX2_finds_6 : decode cX2_finds 6 = .ok (.if_icmp .le 23, 3) := by decide +kernel
theorem dX2_finds_9 : decode cX2_finds 9 = .ok (.aload_n 1, 1) := by decide +kernel
theorem dX2_finds_10 : decode cX2_finds 10 = .ok (.iconst 0, 1) := by decide +kernel
theorem dX2_finds_11 : decode cX2_finds 11 = .ok (.iaload, 1) := by decide +kernel
theorem dX2_finds_12 : decode cX2_finds 12 = .ok (.aload_n 1, 1) := by decide +kernel
theorem dX2_finds_13 : decode cX2_finds 13 = .ok (.iconst 1, 1) := by decide +kernel
theorem dX2_finds_14 : decode cX2_finds 14 = .ok (.iaload, 1) := by decide +kernel
theorem dX2_finds_15 : decode cX2_finds 15 = .ok (.isub, 1) := by decide +kernel
theorem dX2_finds_16 : decode cX2_finds 16 = .ok (.aload_n 0, 1) := by decide +kernel
theorem dX2_finds_17 : decode cX2_finds 17 = .ok (.iconst 0, 1) := by decide +kernel
theorem dX2_finds_18 : decode cX2_finds 18 = .ok (.iaload, 1) := by decide +kernel
theorem dX2_finds_19 : decode cX2_finds 19 = .ok (.iadd, 1) := by decide +kernel
theorem dX2_finds_20 : decode cX2_finds 20 = .ok (.bipush 9, 2) := by decide +kernel
theorem dX2_finds_22 : decode cX2_finds 22 = .ok (.if_icmp .le 7, 3) := by decide +kernel
theorem dX2_finds_25 : decode cX2_finds 25 = .ok (.iconst 1, 1) := by decide +kernel
theorem dX2_finds_26 : decode cX2_finds 26 = .ok (.goto 4, 3) := by decide +kernel
theorem dX2_finds_29 : decode cX2_finds 29 = .ok (.iconst 0, 1) := by decide +kernel
theorem dX2_finds_30 : decode cX2_finds 30 = .ok (.ireturn, 1) := by decide +kernel
set_option maxRecDepth 20000 in
theorem ggX2_pass_X2_next : GoodIn wsX2_pass wsX2_next := goodIn_r _ [11, 3, 22, 23, 24, 25, 26] (by decide +kernel) (by decide +kernel)
set_option maxRecDepth 20000 in
theorem gX2_pass_X2_next : GoodIn wsX2_pass (wsV RX2 22 RX2 yX2_next wsX2_next) := goodIn_app (goodIn_of _ (by decide +kernel)) ggX2_pass_X2_next
set_option maxRecDepth 20000 in
theorem ggX2_pass_X2_noise : GoodIn wsX2_pass wsX2_noise := goodIn_r _ [15, 3, 22, 23, 24, 25, 26] (by decide +kernel) (by decide +kernel)
set_option maxRecDepth 20000 in
theorem gX2_pass_X2_noise : GoodIn wsX2_pass (wsV RX2 26 RX2 yX2_noise wsX2_noise) := goodIn_app (goodIn_of _ (by decide +kernel)) ggX2_pass_X2_noise
set_option maxRecDepth 20000 in
theorem ggX2_pass_X2_finds : GoodIn wsX2_pass wsX2_finds := goodIn_r _ [18] (by decide +kernel) (by decide +kernel)
set_option maxRecDepth 20000 in
theorem gX2_pass_X2_finds : GoodIn wsX2_pass (va_wsS RX2 29 yX2_finds wsX2_finds) := goodIn_app (goodIn_of _ (by decide +kernel)) ggX2_pass_X2_finds
set_option maxRecDepth 20000 in
theorem ggX2_pass_X2_hidden : GoodIn wsX2_pass wsX2_hidden := goodIn_r _ [21] (by decide +kernel) (by decide +kernel)
set_option maxRecDepth 20000 in
theorem gX2_pass_X2_hidden : GoodIn wsX2_pass (va_wsS RX2 36 yX2_hidden wsX2_hidden) := goodIn_app (goodIn_of _ (by decide +kernel)) ggX2_pass_X2_hidden
theorem dX2_pass_0 : decode cX2_pass 0 = .ok (.aload_n 0, 1) := by decide +kernel
theorem dX2_pass_1 : decode cX2_pass 1 = .ok (.getfield 9, 3) := by decide +kernel
theorem dX2_pass_4 : decode cX2_pass 4 = .ok (.arraylength, 1) := by decide +kernel
theorem dX2_pass_5 : decode cX2_pass 5 = .ok (.newarray .boolean, 2) := by decide +kernel
theorem dX2_pass_7 : decode cX2_pass 7 = .ok (.astore_n 1, 1) := by decide +kernel
theorem dX2_pass_8 : decode cX2_pass 8 = .ok (.iconst 0, 1) := by decide +kernel
theorem dX2_pass_9 : decode cX2_pass 9 = .ok (.istore_n 2, 1) := by decide +kernel
theorem dX2_pass_10 : decode cX2_pass 10 = .ok (.iload_n 2, 1) := by decide +kernel
theorem dX2_pass_11 : decode cX2_pass 11 = .ok (.aload_n 0, 1) := by decide +kernel
theorem dX2_pass_12 : decode cX2_pass 12 = .ok (.getfield 9, 3) := by decide +kernel
theorem dX2_pass_15 : decode cX2_pass 15 = .ok (.arraylength, 1) := by decide +kernel
theorem dX2_pass_16 : decode cX2_pass 16 = .ok (.if_icmp .ge 28, 3) := by decide +kernel
theorem dX2_pass_19 : decode cX2_pass 19 = .ok (.aload_n 1, 1) := by decide +kernel
theorem dX2_pass_20 : decode cX2_pass 20 = .ok (.iload_n 2, 1) := by decide +kernel
theorem dX2_pass_21 : decode cX2_pass 21 = .ok (.aload_n 0, 1) := by decide +kernel
theorem dX2_pass_22 : decode cX2_pass 22 = .ok (.getfield 9, 3) := by decide +kernel
theorem dX2_pass_25 : decode cX2_pass 25 = .ok (.iload_n 2, 1) := by decide +kernel
theorem dX2_pass_26 : decode cX2_pass 26 = .ok (.aaload, 1) := by decide +kernel
theorem dX2_pass_27 : decode cX2_pass 27 = .ok (.iconst 1, 1) := by decide +kernel
theorem dX2_pass_28 : decode cX2_pass 28 = .ok (.iaload, 1) := by decide +kernel
theorem dX2_pass_29 : decode cX2_pass 29 = .ok (.ifCond .ge 7, 3) := by decide +kernel
theorem dX2_pass_32 : decode cX2_pass 32 = .ok (.iconst 1, 1) := by decide +kernel
theorem dX2_pass_33 : decode cX2_pass 33 = .ok (.goto 4, 3) := by decide +kernel
theorem dX2_pass_36 : decode cX2_pass 36 = .ok (.iconst 0, 1) := by decide +kernel
theorem dX2_pass_37 : decode cX2_pass 37 = .ok (.bastore, 1) := by decide +kernel
theorem dX2_pass_38 : decode cX2_pass 38 = .ok (.iinc 2 1, 3) := by decide +kernel
theorem dX2_pass_41 : decode cX2_pass 41 = .ok (.goto (-31), 3) := by decide +kernel
theorem dX2_pass_44 : decode cX2_pass 44 = .ok (.aload_n 0, 1) := by decide +kernel
theorem dX2_pass_45 : decode cX2_pass 45 = .ok (.getfield 15, 3) := by decide +kernel
theorem dX2_pass_48 : decode cX2_pass 48 = .ok (.astore_n 2, 1) := by decide +kernel
theorem dX2_pass_49 : decode cX2_pass 49 = .ok (.aload_n 2, 1) := by decide +kernel
theorem dX2_pass_50 : decode cX2_pass 50 = .ok (.arraylength, 1) := by decide +kernel
theorem dX2_pass_51 : decode cX2_pass 51 = .ok (.istore_n 3, 1) := by decide +kernel
theorem dX2_pass_52 : decode cX2_pass 52 = .ok (.iconst 0, 1) := by decide +kernel
theorem dX2_pass_53 : decode cX2_pass 53 = .ok (.istore 4, 2) := by decide +kernel
theorem dX2_pass_55 : decode cX2_pass 55 = .ok (.iload 4, 2) := by decide +kernel
theorem dX2_pass_57 : decode cX2_pass 57 = .ok (.iload_n 3, 1) := by decide +kernel
theorem dX2_pass_58 : decode cX2_pass 58 = .ok (.if_icmp .ge 83, 3) := by decide +kernel
theorem dX2_pass_61 : decode cX2_pass 61 = .ok (.aload_n 2, 1) := by decide +kernel
theorem dX2_pass_62 : decode cX2_pass 62 = .ok (.iload 4, 2) := by decide +kernel
theorem dX2_pass_64 : decode cX2_pass 64 = .ok (.aaload, 1) := by decide +kernel
theorem dX2_pass_65 : decode cX2_pass 65 = .ok (.astore 5, 2) := by decide +kernel
theorem dX2_pass_67 : decode cX2_pass 67 = .ok (.aload 5, 2) := by decide +kernel
theorem dX2_pass_69 : decode cX2_pass 69 = .ok (.iconst 4, 1) := by decide +kernel
theorem dX2_pass_70 : decode cX2_pass 70 = .ok (.iaload, 1) := by decide +kernel
theorem dX2_pass_71 : decode cX2_pass 71 = .ok (.iconst 2, 1) := by decide +kernel
theorem dX2_pass_72 : decode cX2_pass 72 = .ok (.if_icmp .ne 26, 3) := by decide +kernel
theorem dX2_pass_75 : decode cX2_pass 75 = .ok (.aload 5, 2) := by decide +kernel
theorem dX2_pass_77 : decode cX2_pass 77 = .ok (.iconst 5, 1) := by decide +kernel
theorem dX2_pass_78 : decode cX2_pass 78 = .ok (.dup2, 1) := by decide +kernel
theorem dX2_pass_79 : decode cX2_pass 79 = .ok (.iaload, 1) := by decide +kernel
theorem dX2_pass_80 : decode cX2_pass 80 = .ok (.iconst 1, 1) := by decide +kernel
theorem dX2_pass_81 : decode cX2_pass 81 = .ok (.isub, 1) := by decide +kernel
theorem dX2_pass_82 : decode cX2_pass 82 = .ok (.iastore, 1) := by decide +kernel
theorem dX2_pass_83 : decode cX2_pass 83 = .ok (.aload 5, 2) := by decide +kernel
theorem dX2_pass_85 : decode cX2_pass 85 = .ok (.iconst 5, 1) := by decide +kernel
theorem dX2_pass_86 : decode cX2_pass 86 = .ok (.iaload, 1) := by decide +kernel
theorem dX2_pass_87 : decode cX2_pass 87 = .ok (.ifCond .ne 48, 3) := by decide +kernel
theorem dX2_pass_90 : decode cX2_pass 90 = .ok (.aload 5, 2) := by decide +kernel
theorem dX2_pass_92 : decode cX2_pass 92 = .ok (.iconst 4, 1) := by decide +kernel
theorem dX2_pass_93 : decode cX2_pass 93 = .ok (.iconst 3, 1) := by decide +kernel
theorem dX2_pass_94 : decode cX2_pass 94 = .ok (.iastore, 1) := by decide +kernel
theorem dX2_pass_95 : decode cX2_pass 95 = .ok (.goto 40, 3) := by decide +kernel
theorem dX2_pass_98 : decode cX2_pass 98 = .ok (.aload 5, 2) := by decide +kernel
theorem dX2_pass_100 : decode cX2_pass 100 = .ok (.iconst 4, 1) := by decide +kernel
theorem dX2_pass_101 : decode cX2_pass 101 = .ok (.iaload, 1) := by decide +kernel
theorem dX2_pass_102 : decode cX2_pass 102 = .ok (.ifCond .ne 33, 3) := by decide +kernel
theorem dX2_pass_105 : decode cX2_pass 105 = .ok (.aload 5, 2) := by decide +kernel
theorem dX2_pass_107 : decode cX2_pass 107 = .ok (.iconst 3, 1) := by decide +kernel
theorem dX2_pass_108 : decode cX2_pass 108 = .ok (.dup2, 1) := by decide +kernel
theorem dX2_pass_109 : decode cX2_pass 109 = .ok (.iaload, 1) := by decide +kernel
theorem dX2_pass_110 : decode cX2_pass 110 = .ok (.iconst 1, 1) := by decide +kernel
theorem dX2_pass_111 : decode cX2_pass 111 = .ok (.isub, 1) := by decide +kernel
theorem dX2_pass_112 : decode cX2_pass 112 = .ok (.iastore, 1) := by decide +kernel
theorem dX2_pass_113 : decode cX2_pass 113 = .ok (.aload 5, 2) := by decide +kernel
theorem dX2_pass_115 : decode cX2_pass 115 = .ok (.iconst 3, 1) := by decide +kernel
theorem dX2_pass_116 : decode cX2_pass 116 = .ok (.iaload, 1) := by decide +kernel
theorem dX2_pass_117 : decode cX2_pass 117 = .ok (.ifCond .ne 18, 3) := by decide +kernel
theorem dX2_pass_120 : decode cX2_pass 120 = .ok (.aload 5, 2) := by decide +kernel
theorem dX2_pass_122 : decode cX2_pass 122 = .ok (.iconst 4, 1) := by decide +kernel
theorem dX2_pass_123 : decode cX2_pass 123 = .ok (.iconst 4, 1) := by decide +kernel
theorem dX2_pass_124 : decode cX2_pass 124 = .ok (.iastore, 1) := by decide +kernel
theorem dX2_pass_125 : decode cX2_pass 125 = .ok (.aload_n 0, 1) := by decide +kernel
theorem dX2_pass_126 : decode cX2_pass 126 = .ok (.dup, 1) := by decide +kernel
theorem dX2_pass_127 : decode cX2_pass 127 = .ok (.getfield 18, 3) := by decide +kernel
theorem dX2_pass_130 : decode cX2_pass 130 = .ok (.iconst 1, 1) := by decide +kernel
theorem dX2_pass_131 : decode cX2_pass 131 = .ok (.iadd, 1) := by decide +kernel
theorem dX2_pass_132 : decode cX2_pass 132 = .ok (.putfield 18, 3) := by decide +kernel
theorem dX2_pass_135 : decode cX2_pass 135 = .ok (.iinc 4 1, 3) := by decide +kernel
theorem dX2_pass_138 : decode cX2_pass 138 = .ok (.goto (-83), 3) := by decide +kernel
theorem dX2_pass_141 : decode cX2_pass 141 = .ok (.iconst 0, 1) := by decide +kernel
theorem dX2_pass_142 : decode cX2_pass 142 = .ok (.istore_n 2, 1) := by decide +kernel
theorem dX2_pass_143 : decode cX2_pass 143 = .ok (.iload_n 2, 1) := by decide +kernel
theorem dX2_pass_144 : decode cX2_pass 144 = .ok (.aload_n 0, 1) := by decide +kernel
theorem dX2_pass_145 : decode cX2_pass 145 = .ok (.getfield 9, 3) := by decide +kernel
theorem dX2_pass_148 : decode cX2_pass 148 = .ok (.arraylength, 1) := by decide +kernel
theorem dX2_pass_149 : decode cX2_pass 149 = .ok (.if_icmp .ge 176, 3) := by decide +kernel
theorem dX2_pass_152 : decode cX2_pass 152 = .ok (.aload_n 0, 1) := by decide +kernel
theorem dX2_pass_153 : decode cX2_pass 153 = .ok (.getfield 9, 3) := by decide +kernel
theorem dX2_pass_156 : decode cX2_pass 156 = .ok (.iload_n 2, 1) := by decide +kernel
theorem dX2_pass_157 : decode cX2_pass 157 = .ok (.aaload, 1) := by decide +kernel
theorem dX2_pass_158 : decode cX2_pass 158 = .ok (.astore_n 3, 1) := by decide +kernel
theorem dX2_pass_159 : decode cX2_pass 159 = .ok (.aload_n 1, 1) := by decide +kernel
theorem dX2_pass_160 : decode cX2_pass 160 = .ok (.iload_n 2, 1) := by decide +kernel
theorem dX2_pass_161 : decode cX2_pass 161 = .ok (.baload, 1) := by decide +kernel
theorem dX2_pass_162 : decode cX2_pass 162 = .ok (.ifCond .eq 71, 3) := by decide +kernel
theorem dX2_pass_165 : decode cX2_pass 165 = .ok (.aload_n 0, 1) := by decide +kernel
theorem dX2_pass_166 : decode cX2_pass 166 = .ok (.invokevirtual 22, 3) := by decide +kernel
theorem dX2_pass_169 : decode cX2_pass 169 = .ok (.istore 4, 2) := by decide +kernel
theorem dX2_pass_171 : decode cX2_pass 171 = .ok (.iload 4, 2) := by decide +kernel
theorem dX2_pass_173 : decode cX2_pass 173 = .ok (.ifCond .ge 21, 3) := by decide +kernel
theorem dX2_pass_176 : decode cX2_pass 176 = .ok (.aload_n 3, 1) := by decide +kernel
theorem dX2_pass_177 : decode cX2_pass 177 = .ok (.iconst 0, 1) := by decide +kernel
theorem dX2_pass_178 : decode cX2_pass 178 = .ok (.iaload, 1) := by decide +kernel
theorem dX2_pass_179 : decode cX2_pass 179 = .ok (.bipush 9, 2) := by decide +kernel
theorem dX2_pass_181 : decode cX2_pass 181 = .ok (.if_icmp .ge 138, 3) := by decide +kernel
theorem dX2_pass_184 : decode cX2_pass 184 = .ok (.aload_n 3, 1) := by decide +kernel
theorem dX2_pass_185 : decode cX2_pass 185 = .ok (.iconst 0, 1) := by decide +kernel
theorem dX2_pass_186 : decode cX2_pass 186 = .ok (.dup2, 1) := by decide +kernel
theorem dX2_pass_187 : decode cX2_pass 187 = .ok (.iaload, 1) := by decide +kernel
theorem dX2_pass_188 : decode cX2_pass 188 = .ok (.iconst 1, 1) := by decide +kernel
theorem dX2_pass_189 : decode cX2_pass 189 = .ok (.iadd, 1) := by decide +kernel
theorem dX2_pass_190 : decode cX2_pass 190 = .ok (.iastore, 1) := by decide +kernel
theorem dX2_pass_191 : decode cX2_pass 191 = .ok (.goto 128, 3) := by decide +kernel
theorem dX2_pass_194 : decode cX2_pass 194 = .ok (.aload_n 3, 1) := by decide +kernel
theorem dX2_pass_195 : decode cX2_pass 195 = .ok (.iconst 1, 1) := by decide +kernel
theorem dX2_pass_196 : decode cX2_pass 196 = .ok (.iload 4, 2) := by decide +kernel
theorem dX2_pass_198 : decode cX2_pass 198 = .ok (.iastore, 1) := by decide +kernel
theorem dX2_pass_199 : decode cX2_pass 199 = .ok (.aload_n 3, 1) := by decide +kernel
theorem dX2_pass_200 : decode cX2_pass 200 = .ok (.iconst 2, 1) := by decide +kernel
theorem dX2_pass_201 : decode cX2_pass 201 = .ok (.iconst 2, 1) := by decide +kernel
theorem dX2_pass_202 : decode cX2_pass 202 = .ok (.aload_n 0, 1) := by decide +kernel
theorem dX2_pass_203 : decode cX2_pass 203 = .ok (.getfield 15, 3) := by decide +kernel
theorem dX2_pass_206 : decode cX2_pass 206 = .ok (.iload 4, 2) := by decide +kernel
theorem dX2_pass_208 : decode cX2_pass 208 = .ok (.aaload, 1) := by decide +kernel
theorem dX2_pass_209 : decode cX2_pass 209 = .ok (.iconst 1, 1) := by decide +kernel
theorem dX2_pass_210 : decode cX2_pass 210 = .ok (.iaload, 1) := by decide +kernel
theorem dX2_pass_211 : decode cX2_pass 211 = .ok (.iadd, 1) := by decide +kernel
theorem dX2_pass_212 : decode cX2_pass 212 = .ok (.aload_n 0, 1) := by decide +kernel
theorem dX2_pass_213 : decode cX2_pass 213 = .ok (.invokevirtual 26, 3) := by decide +kernel
theorem dX2_pass_216 : decode cX2_pass 216 = .ok (.iconst 4, 1) := by decide +kernel
theorem dX2_pass_217 : decode cX2_pass 217 = .ok (.idiv, 1) := by decide +kernel
theorem dX2_pass_218 : decode cX2_pass 218 = .ok (.iadd, 1) := by decide +kernel
theorem dX2_pass_219 : decode cX2_pass 219 = .ok (.iastore, 1) := by decide +kernel
theorem dX2_pass_220 : decode cX2_pass 220 = .ok (.aload_n 0, 1) := by decide +kernel
theorem dX2_pass_221 : decode cX2_pass 221 = .ok (.getfield 15, 3) := by decide +kernel
theorem dX2_pass_224 : decode cX2_pass 224 = .ok (.iload 4, 2) := by decide +kernel
theorem dX2_pass_226 : decode cX2_pass 226 = .ok (.aaload, 1) := by decide +kernel
theorem dX2_pass_227 : decode cX2_pass 227 = .ok (.iconst 4, 1) := by decide +kernel
theorem dX2_pass_228 : decode cX2_pass 228 = .ok (.iconst 1, 1) := by decide +kernel
theorem dX2_pass_229 : decode cX2_pass 229 = .ok (.iastore, 1) := by decide +kernel
theorem dX2_pass_230 : decode cX2_pass 230 = .ok (.goto 89, 3) := by decide +kernel
theorem dX2_pass_233 : decode cX2_pass 233 = .ok (.aload_n 3, 1) := by decide +kernel
theorem dX2_pass_234 : decode cX2_pass 234 = .ok (.iconst 2, 1) := by decide +kernel
theorem dX2_pass_235 : decode cX2_pass 235 = .ok (.dup2, 1) := by decide +kernel
theorem dX2_pass_236 : decode cX2_pass 236 = .ok (.iaload, 1) := by decide +kernel
theorem dX2_pass_237 : decode cX2_pass 237 = .ok (.iconst 1, 1) := by decide +kernel
theorem dX2_pass_238 : decode cX2_pass 238 = .ok (.isub, 1) := by decide +kernel
theorem dX2_pass_239 : decode cX2_pass 239 = .ok (.iastore, 1) := by decide +kernel
theorem dX2_pass_240 : decode cX2_pass 240 = .ok (.aload_n 3, 1) := by decide +kernel
theorem dX2_pass_241 : decode cX2_pass 241 = .ok (.iconst 2, 1) := by decide +kernel
theorem dX2_pass_242 : decode cX2_pass 242 = .ok (.iaload, 1) := by decide +kernel
theorem dX2_pass_243 : decode cX2_pass 243 = .ok (.ifCond .le 6, 3) := by decide +kernel
theorem dX2_pass_246 : decode cX2_pass 246 = .ok (.goto 73, 3) := by decide +kernel
theorem dX2_pass_249 : decode cX2_pass 249 = .ok (.aload_n 0, 1) := by decide +kernel
theorem dX2_pass_250 : decode cX2_pass 250 = .ok (.getfield 15, 3) := by decide +kernel
theorem dX2_pass_253 : decode cX2_pass 253 = .ok (.aload_n 3, 1) := by decide +kernel
theorem dX2_pass_254 : decode cX2_pass 254 = .ok (.iconst 1, 1) := by decide +kernel
theorem dX2_pass_255 : decode cX2_pass 255 = .ok (.iaload, 1) := by decide +kernel
theorem dX2_pass_256 : decode cX2_pass 256 = .ok (.aaload, 1) := by decide +kernel
theorem dX2_pass_257 : decode cX2_pass 257 = .ok (.astore 4, 2) := by decide +kernel
theorem dX2_pass_259 : decode cX2_pass 259 = .ok (.aload_n 3, 1) := by decide +kernel
theorem dX2_pass_260 : decode cX2_pass 260 = .ok (.aload 4, 2) := by decide +kernel
theorem dX2_pass_262 : decode cX2_pass 262 = .ok (.invokestatic 29, 3) := by decide +kernel
theorem dX2_pass_265 : decode cX2_pass 265 = .ok (.ifCond .eq 27, 3) := by decide +kernel
theorem dX2_pass_268 : decode cX2_pass 268 = .ok (.aload_n 0, 1) := by decide +kernel
theorem dX2_pass_269 : decode cX2_pass 269 = .ok (.dup, 1) := by decide +kernel
theorem dX2_pass_270 : decode cX2_pass 270 = .ok (.getfield 33, 3) := by decide +kernel
theorem dX2_pass_273 : decode cX2_pass 273 = .ok (.iconst 3, 1) := by decide +kernel
theorem dX2_pass_274 : decode cX2_pass 274 = .ok (.aload 4, 2) := by decide +kernel
theorem dX2_pass_276 : decode cX2_pass 276 = .ok (.invokestatic 36, 3) := by decide +kernel
theorem dX2_pass_279 : decode cX2_pass 279 = .ok (.imul, 1) := by decide +kernel
theorem dX2_pass_280 : decode cX2_pass 280 = .ok (.iadd, 1) := by decide +kernel
theorem dX2_pass_281 : decode cX2_pass 281 = .ok (.putfield 33, 3) := by decide +kernel
theorem dX2_pass_284 : decode cX2_pass 284 = .ok (.aload 4, 2) := by decide +kernel
theorem dX2_pass_286 : decode cX2_pass 286 = .ok (.iconst 4, 1) := by decide +kernel
theorem dX2_pass_287 : decode cX2_pass 287 = .ok (.iconst 4, 1) := by decide +kernel
theorem dX2_pass_288 : decode cX2_pass 288 = .ok (.iastore, 1) := by decide +kernel
theorem dX2_pass_289 : decode cX2_pass 289 = .ok (.goto 13, 3) := by decide +kernel
theorem dX2_pass_292 : decode cX2_pass 292 = .ok (.aload 4, 2) := by decide +kernel
theorem dX2_pass_294 : decode cX2_pass 294 = .ok (.iconst 4, 1) := by decide +kernel
theorem dX2_pass_295 : decode cX2_pass 295 = .ok (.iconst 2, 1) := by decide +kernel
theorem dX2_pass_296 : decode cX2_pass 296 = .ok (.iastore, 1) := by decide +kernel
theorem dX2_pass_297 : decode cX2_pass 297 = .ok (.aload 4, 2) := by decide +kernel
theorem dX2_pass_299 : decode cX2_pass 299 = .ok (.iconst 5, 1) := by decide +kernel
theorem dX2_pass_300 : decode cX2_pass 300 = .ok (.iconst 5, 1) := by decide +kernel
theorem dX2_pass_301 : decode cX2_pass 301 = .ok (.iastore, 1) := by decide +kernel
theorem dX2_pass_302 : decode cX2_pass 302 = .ok (.aload_n 3, 1) := by decide +kernel
theorem dX2_pass_303 : decode cX2_pass 303 = .ok (.iconst 1, 1) := by decide +kernel
theorem dX2_pass_304 : decode cX2_pass 304 = .ok (.iconst (-1), 1) := by decide +kernel
theorem dX2_pass_305 : decode cX2_pass 305 = .ok (.iastore, 1) := by decide +kernel
theorem dX2_pass_306 : decode cX2_pass 306 = .ok (.aload_n 3, 1) := by decide +kernel
theorem dX2_pass_307 : decode cX2_pass 307 = .ok (.iconst 0, 1) := by decide +kernel
theorem dX2_pass_308 : decode cX2_pass 308 = .ok (.iaload, 1) := by decide +kernel
theorem dX2_pass_309 : decode cX2_pass 309 = .ok (.ifCond .le 10, 3) := by decide +kernel
theorem dX2_pass_312 : decode cX2_pass 312 = .ok (.aload_n 3, 1) := by decide +kernel
theorem dX2_pass_313 : decode cX2_pass 313 = .ok (.iconst 0, 1) := by decide +kernel
theorem dX2_pass_314 : decode cX2_pass 314 = .ok (.dup2, 1) := by decide +kernel
theorem dX2_pass_315 : decode cX2_pass 315 = .ok (.iaload, 1) := by decide +kernel
theorem dX2_pass_316 : decode cX2_pass 316 = .ok (.iconst 1, 1) := by decide +kernel
theorem dX2_pass_317 : decode cX2_pass 317 = .ok (.isub, 1) := by decide +kernel
theorem dX2_pass_318 : decode cX2_pass 318 = .ok (.iastore, 1) := by decide +kernel
theorem dX2_pass_319 : decode cX2_pass 319 = .ok (.iinc 2 1, 3) := by decide +kernel
theorem dX2_pass_322 : decode cX2_pass 322 = .ok (.goto (-179), 3) := by decide +kernel
theorem dX2_pass_325 : decode cX2_pass 325 = .ok (.aload_n 0, 1) := by decide +kernel
theorem dX2_pass_326 : decode cX2_pass 326 = .ok (.dup, 1) := by decide +kernel
theorem dX2_pass_327 : decode cX2_pass 327 = .ok (.getfield 40, 3) := by decide +kernel
theorem dX2_pass_330 : decode cX2_pass 330 = .ok (.iconst 1, 1) := by decide +kernel
theorem dX2_pass_331 : decode cX2_pass 331 = .ok (.iadd, 1) := by decide +kernel
theorem dX2_pass_332 : decode cX2_pass 332 = .ok (.putfield 40, 3) := by decide +kernel
theorem dX2_pass_335 : decode cX2_pass 335 = .ok (.return_, 1) := by decide +kernel
set_option maxRecDepth 20000 in
theorem ggX2_behind_X2_count : GoodIn wsX2_behind wsX2_count := goodIn_r _ [5, 6, 30, 31, 32, 33, 34] (by decide +kernel) (by decide +kernel)
set_option maxRecDepth 20000 in
theorem gX2_behind_X2_count : GoodIn wsX2_behind (wsV RX2 43 RX2 yX2_count wsX2_count) := goodIn_app (goodIn_of _ (by decide +kernel)) ggX2_behind_X2_count
set_option maxRecDepth 20000 in
theorem ggX2_behind_X2_pass : GoodIn wsX2_behind wsX2_pass := goodIn_r _ [10, 11, 12, 6, 13, 14, 15, 16, 17, 18, 4, 19, 20, 21, 22, 23, 24, 25, 26, 27, 28, 29, 30, 31, 32, 33, 34] (by decide +kernel) (by decide +kernel)
set_option maxRecDepth 20000 in
theorem gX2_behind_X2_pass : GoodIn wsX2_behind (wsV RX2 47 RX2 yX2_pass wsX2_pass) := goodIn_app (goodIn_of _ (by decide +kernel)) ggX2_behind_X2_pass
theorem dX2_behind_0 : decode cX2_behind 0 = .ok (.aload_n 0, 1) := by decide +kernel
theorem dX2_behind_1 : decode cX2_behind 1 = .ok (.iconst 3, 1) := by decide +kernel
theorem dX2_behind_2 : decode cX2_behind 2 = .ok (.invokevirtual 43, 3) := by decide +kernel
theorem dX2_behind_5 : decode cX2_behind 5 = .ok (.istore_n 2, 1) := by decide +kernel
theorem dX2_behind_6 : decode cX2_behind 6 = .ok (.iconst 0, 1) := by decide +kernel
theorem dX2_behind_7 : decode cX2_behind 7 = .ok (.istore_n 3, 1) := by decide +kernel
theorem dX2_behind_8 : decode cX2_behind 8 = .ok (.iload_n 3, 1) := by decide +kernel
theorem dX2_behind_9 : decode cX2_behind 9 = .ok (.iload_n 1, 1) := by decide +kernel
theorem dX2_behind_10 : decode cX2_behind 10 = .ok (.if_icmp .ge 13, 3) := by decide +kernel
theorem dX2_behind_13 : decode cX2_behind 13 = .ok (.aload_n 0, 1) := by decide +kernel
theorem dX2_behind_14 : decode cX2_behind 14 = .ok (.invokevirtual 47, 3) := by decide +kernel
theorem dX2_behind_17 : decode cX2_behind 17 = .ok (.iinc 3 1, 3) := by decide +kernel
theorem dX2_behind_20 : decode cX2_behind 20 = .ok (.goto (-12), 3) := by decide +kernel
theorem dX2_behind_23 : decode cX2_behind 23 = .ok (.aload_n 0, 1) := by decide +kernel
theorem dX2_behind_24 : decode cX2_behind 24 = .ok (.iconst 3, 1) := by decide +kernel
theorem dX2_behind_25 : decode cX2_behind 25 = .ok (.invokevirtual 43, 3) := by decide +kernel
theorem dX2_behind_28 : decode cX2_behind 28 = .ok (.iload_n 2, 1) := by decide +kernel
theorem dX2_behind_29 : decode cX2_behind 29 = .ok (.isub, 1) := by decide +kernel
theorem dX2_behind_30 : decode cX2_behind 30 = .ok (.ireturn, 1) := by decide +kernel
set_option maxRecDepth 20000 in
theorem ggX2_isSame_X1_minute : GoodIn wsX2_isSame wsX1_minute := goodIn_r _ [10, 11, 12, 182, 183, 184, 185, 186, 187, 188, 189, 190, 191, 192, 193, 194, 195, 196, 197, 198] (by decide +kernel) (by decide +kernel)
set_option maxRecDepth 20000 in
theorem gX2_isSame_X1_minute : GoodIn wsX2_isSame (wsV RX2 59 RX1 yX1_minute wsX1_minute) := goodIn_app (goodIn_of _ (by decide +kernel)) ggX2_isSame_X1_minute
set_option maxRecDepth 20000 in
theorem ggX2_isSame_X1_travellers : GoodIn wsX2_isSame wsX1_travellers := goodIn_r _ [16, 11, 17, 182, 183, 184, 185, 186, 187, 188, 189, 190, 191, 192, 193, 194, 195, 196, 197, 198] (by decide +kernel) (by decide +kernel)
set_option maxRecDepth 20000 in
theorem gX2_isSame_X1_travellers : GoodIn wsX2_isSame (wsV RX2 63 RX1 yX1_travellers wsX1_travellers) := goodIn_app (goodIn_of _ (by decide +kernel)) ggX2_isSame_X1_travellers
set_option maxRecDepth 20000 in
theorem ggX2_isSame_X1_waiting : GoodIn wsX2_isSame wsX1_waiting := goodIn_r _ [21, 11, 22, 23, 24, 25, 26, 27, 28, 182, 183, 184, 185, 186, 187, 188, 189, 190, 191, 192, 193, 194, 195, 196, 197, 198] (by decide +kernel) (by decide +kernel)
set_option maxRecDepth 20000 in
theorem gX2_isSame_X1_waiting : GoodIn wsX2_isSame (wsV RX2 65 RX1 yX1_waiting wsX1_waiting) := goodIn_app (goodIn_of _ (by decide +kernel)) ggX2_isSame_X1_waiting
set_option maxRecDepth 20000 in
theorem ggX2_isSame_X2_count : GoodIn wsX2_isSame wsX2_count := goodIn_r _ [33, 2, 177, 178, 179, 180, 181] (by decide +kernel) (by decide +kernel)
set_option maxRecDepth 20000 in
theorem gX2_isSame_X2_count : GoodIn wsX2_isSame (wsV RX2 43 RX2 yX2_count wsX2_count) := goodIn_app (goodIn_of _ (by decide +kernel)) ggX2_isSame_X2_count
set_option maxRecDepth 20000 in
theorem ggX2_isSame_X1_asleep : GoodIn wsX2_isSame wsX1_asleep := goodIn_r _ [37, 11, 22, 23, 24, 25, 26, 27, 28, 182, 183, 184, 185, 186, 187, 188, 189, 190, 191, 192, 193, 194, 195, 196, 197, 198] (by decide +kernel) (by decide +kernel)
set_option maxRecDepth 20000 in
theorem gX2_isSame_X1_asleep : GoodIn wsX2_isSame (wsV RX2 68 RX1 yX1_asleep wsX1_asleep) := goodIn_app (goodIn_of _ (by decide +kernel)) ggX2_isSame_X1_asleep
set_option maxRecDepth 20000 in
theorem ggX2_isSame_X1_sentBack : GoodIn wsX2_isSame wsX1_sentBack := goodIn_r _ [41, 11, 22, 23, 24, 25, 26, 27, 28, 182, 183, 184, 185, 186, 187, 188, 189, 190, 191, 192, 193, 194, 195, 196, 197, 198] (by decide +kernel) (by decide +kernel)
set_option maxRecDepth 20000 in
theorem gX2_isSame_X1_sentBack : GoodIn wsX2_isSame (wsV RX2 71 RX1 yX1_sentBack wsX1_sentBack) := goodIn_app (goodIn_of _ (by decide +kernel)) ggX2_isSame_X1_sentBack
set_option maxRecDepth 20000 in
theorem ggX2_isSame_X1_expired : GoodIn wsX2_isSame wsX1_expired := goodIn_r _ [45, 11, 46, 182, 183, 184, 185, 186, 187, 188, 189, 190, 191, 192, 193, 194, 195, 196, 197, 198] (by decide +kernel) (by decide +kernel)
set_option maxRecDepth 20000 in
theorem gX2_isSame_X1_expired : GoodIn wsX2_isSame (wsV RX2 74 RX1 yX1_expired wsX1_expired) := goodIn_app (goodIn_of _ (by decide +kernel)) ggX2_isSame_X1_expired
set_option maxRecDepth 20000 in
theorem ggX2_isSame_X1_paid : GoodIn wsX2_isSame wsX1_paid := goodIn_r _ [50, 11, 51, 182, 183, 184, 185, 186, 187, 188, 189, 190, 191, 192, 193, 194, 195, 196, 197, 198] (by decide +kernel) (by decide +kernel)
set_option maxRecDepth 20000 in
theorem gX2_isSame_X1_paid : GoodIn wsX2_isSame (wsV RX2 76 RX1 yX1_paid wsX1_paid) := goodIn_app (goodIn_of _ (by decide +kernel)) ggX2_isSame_X1_paid
set_option maxRecDepth 20000 in
theorem ggX2_isSame_X1_noise : GoodIn wsX2_isSame wsX1_noise := goodIn_r _ [55, 11, 56, 57, 58, 25, 59, 27, 28, 60, 182, 183, 184, 185, 186, 187, 188, 189, 190, 191, 192, 193, 194, 195, 196, 197, 198] (by decide +kernel) (by decide +kernel)
set_option maxRecDepth 20000 in
theorem gX2_isSame_X1_noise : GoodIn wsX2_isSame (wsV RX2 78 RX1 yX1_noise wsX1_noise) := goodIn_app (goodIn_of _ (by decide +kernel)) ggX2_isSame_X1_noise
set_option maxRecDepth 20000 in
theorem ggX2_isSame_X2_noise : GoodIn wsX2_isSame wsX2_noise := goodIn_r _ [64, 2, 177, 178, 179, 180, 181] (by decide +kernel) (by decide +kernel)
set_option maxRecDepth 20000 in
theorem gX2_isSame_X2_noise : GoodIn wsX2_isSame (wsV RX2 26 RX2 yX2_noise wsX2_noise) := goodIn_app (goodIn_of _ (by decide +kernel)) ggX2_isSame_X2_noise
set_option maxRecDepth 20000 in
theorem ggX2_isSame_X1_nextInLine : GoodIn wsX2_isSame wsX1_nextInLine := goodIn_r _ [68, 11, 69, 70, 71, 25, 72, 27, 28, 182, 183, 184, 185, 186, 187, 188, 189, 190, 191, 192, 193, 194, 195, 196, 197, 198] (by decide +kernel) (by decide +kernel)
set_option maxRecDepth 20000 in
theorem gX2_isSame_X1_nextInLine : GoodIn wsX2_isSame (wsV RX2 79 RX1 yX1_nextInLine wsX1_nextInLine) := goodIn_app (goodIn_of _ (by decide +kernel)) ggX2_isSame_X1_nextInLine
set_option maxRecDepth 20000 in
theorem ggX2_isSame_X2_next : GoodIn wsX2_isSame wsX2_next := goodIn_r _ [76, 2, 177, 178, 179, 180, 181] (by decide +kernel) (by decide +kernel)
set_option maxRecDepth 20000 in
theorem gX2_isSame_X2_next : GoodIn wsX2_isSame (wsV RX2 22 RX2 yX2_next wsX2_next) := goodIn_app (goodIn_of _ (by decide +kernel)) ggX2_isSame_X2_next
set_option maxRecDepth 20000 in
theorem ggX2_isSame_X1_guards : GoodIn wsX2_isSame wsX1_guards := goodIn_r _ [80, 11, 81, 182, 183, 184, 185, 186, 187, 188, 189, 190, 191, 192, 193, 194, 195, 196, 197, 198] (by decide +kernel) (by decide +kernel)
set_option maxRecDepth 20000 in
theorem gX2_isSame_X1_guards : GoodIn wsX2_isSame (wsV RX2 82 RX1 yX1_guards wsX1_guards) := goodIn_app (goodIn_of _ (by decide +kernel)) ggX2_isSame_X1_guards
set_option maxRecDepth 20000 in
theorem ggX2_isSame_X1_stateOf : GoodIn wsX2_isSame wsX1_stateOf := goodIn_ca (goodIn_r _ [85, 11, 86, 87, 88, 89, 9, 90, 91, 92, 93, 94, 95, 25, 96, 27, 182, 183, 184, 185, 186, 187, 188, 189, 190, 191, 192, 193, 194, 195, 196, 197, 198] (by decide +kernel) (by decide +kernel)) (goodIn_sub (fun _ h => List.mem_cons_of_mem _ (List.mem_append_right _ h)) (by decide +kernel))
set_option maxRecDepth 20000 in
theorem gX2_isSame_X1_stateOf : GoodIn wsX2_isSame (wsV RX2 84 RX1 yX1_stateOf wsX1_stateOf) := goodIn_app (goodIn_of _ (by decide +kernel)) ggX2_isSame_X1_stateOf
set_option maxRecDepth 20000 in
theorem ggX2_isSame_X1_hiddenOf : GoodIn wsX2_isSame wsX1_hiddenOf := goodIn_ca (goodIn_r _ [100, 11, 87, 88, 89, 9, 90, 91, 92, 93, 94, 95, 25, 96, 27, 101, 102, 103, 104, 105, 106, 182, 183, 184, 185, 186, 187, 188, 189, 190, 191, 192, 193, 194, 195, 196, 197, 198] (by decide +kernel) (by decide +kernel)) (goodIn_sub (fun _ h => List.mem_cons_of_mem _ (List.mem_append_right _ h)) (by decide +kernel))
set_option maxRecDepth 20000 in
theorem gX2_isSame_X1_hiddenOf : GoodIn wsX2_isSame (wsV RX2 87 RX1 yX1_hiddenOf wsX1_hiddenOf) := goodIn_app (goodIn_of _ (by decide +kernel)) ggX2_isSame_X1_hiddenOf
set_option maxRecDepth 20000 in
theorem ggX2_isSame_X2_hidden : GoodIn wsX2_isSame wsX2_hidden := goodIn_r _ [109] (by decide +kernel) (by decide +kernel)
set_option maxRecDepth 20000 in
theorem gX2_isSame_X2_hidden : GoodIn wsX2_isSame (va_wsS RX2 36 yX2_hidden wsX2_hidden) := goodIn_app (goodIn_of _ (by decide +kernel)) ggX2_isSame_X2_hidden
set_option maxRecDepth 20000 in
theorem ggX2_isSame_X1_lullabyOf : GoodIn wsX2_isSame wsX1_lullabyOf := goodIn_ca (goodIn_r _ [113, 11, 114, 87, 88, 89, 9, 90, 91, 92, 93, 94, 95, 25, 96, 27, 182, 183, 184, 185, 186, 187, 188, 189, 190, 191, 192, 193, 194, 195, 196, 197, 198] (by decide +kernel) (by decide +kernel)) (goodIn_sub (fun _ h => List.mem_cons_of_mem _ (List.mem_append_right _ h)) (by decide +kernel))
set_option maxRecDepth 20000 in
theorem gX2_isSame_X1_lullabyOf : GoodIn wsX2_isSame (wsV RX2 90 RX1 yX1_lullabyOf wsX1_lullabyOf) := goodIn_app (goodIn_of _ (by decide +kernel)) ggX2_isSame_X1_lullabyOf
set_option maxRecDepth 20000 in
theorem ggX2_isSame_X1_placeInLine : GoodIn wsX2_isSame wsX1_placeInLine := goodIn_ca (goodIn_r _ [118, 11, 86, 87, 88, 89, 9, 90, 91, 92, 93, 94, 95, 25, 96, 27, 119, 120, 121, 122, 28, 182, 183, 184, 185, 186, 187, 188, 189, 190, 191, 192, 193, 194, 195, 196, 197, 198] (by decide +kernel) (by decide +kernel)) (goodIn_sub (fun _ h => List.mem_cons_of_mem _ (List.mem_append_right _ h)) (by decide +kernel))
set_option maxRecDepth 20000 in
theorem gX2_isSame_X1_placeInLine : GoodIn wsX2_isSame (wsV RX2 93 RX1 yX1_placeInLine wsX1_placeInLine) := goodIn_app (goodIn_of _ (by decide +kernel)) ggX2_isSame_X1_placeInLine
set_option maxRecDepth 20000 in
theorem ggX2_isSame_X1_searchTime : GoodIn wsX2_isSame wsX1_searchTime := goodIn_ca (goodIn_r _ [126, 11, 87, 88, 89, 9, 90, 91, 92, 93, 94, 95, 25, 96, 27, 127, 128, 129, 130, 106, 131, 57, 58, 59, 28, 60, 182, 183, 184, 185, 186, 187, 188, 189, 190, 191, 192, 193, 194, 195, 196, 197, 198] (by decide +kernel) (by decide +kernel)) (goodIn_sub (fun _ h => List.mem_cons_of_mem _ (List.mem_append_right _ h)) (by decide +kernel))
set_option maxRecDepth 20000 in
theorem gX2_isSame_X1_searchTime : GoodIn wsX2_isSame (wsV RX2 96 RX1 yX1_searchTime wsX1_searchTime) := goodIn_app (goodIn_of _ (by decide +kernel)) ggX2_isSame_X1_searchTime
set_option maxRecDepth 20000 in
theorem ggX2_isSame_X1_alertnessOf : GoodIn wsX2_isSame wsX1_alertnessOf := goodIn_ca (goodIn_r _ [135, 11, 136, 137, 138, 139, 9, 140, 91, 92, 141, 142, 143, 25, 144, 145, 182, 183, 184, 185, 186, 187, 188, 189, 190, 191, 192, 193, 194, 195, 196, 197, 198] (by decide +kernel) (by decide +kernel)) (goodIn_sub (fun _ h => List.mem_cons_of_mem _ (List.mem_append_right _ h)) (by decide +kernel))
set_option maxRecDepth 20000 in
theorem gX2_isSame_X1_alertnessOf : GoodIn wsX2_isSame (wsV RX2 99 RX1 yX1_alertnessOf wsX1_alertnessOf) := goodIn_app (goodIn_of _ (by decide +kernel)) ggX2_isSame_X1_alertnessOf
set_option maxRecDepth 20000 in
theorem ggX2_isSame_X1_searches : GoodIn wsX2_isSame wsX1_searches := goodIn_ca (goodIn_r _ [149, 11, 150, 137, 138, 139, 9, 140, 91, 92, 141, 142, 143, 25, 144, 145, 182, 183, 184, 185, 186, 187, 188, 189, 190, 191, 192, 193, 194, 195, 196, 197, 198] (by decide +kernel) (by decide +kernel)) (goodIn_sub (fun _ h => List.mem_cons_of_mem _ (List.mem_append_right _ h)) (by decide +kernel))
set_option maxRecDepth 20000 in
theorem gX2_isSame_X1_searches : GoodIn wsX2_isSame (wsV RX2 102 RX1 yX1_searches wsX1_searches) := goodIn_app (goodIn_of _ (by decide +kernel)) ggX2_isSame_X1_searches
set_option maxRecDepth 20000 in
theorem ggX2_isSame_X1_minutesToGo : GoodIn wsX2_isSame wsX1_minutesToGo := goodIn_ca (goodIn_r _ [154, 11, 155, 137, 138, 139, 9, 140, 91, 92, 141, 142, 143, 25, 144, 145, 182, 183, 184, 185, 186, 187, 188, 189, 190, 191, 192, 193, 194, 195, 196, 197, 198] (by decide +kernel) (by decide +kernel)) (goodIn_sub (fun _ h => List.mem_cons_of_mem _ (List.mem_append_right _ h)) (by decide +kernel))
set_option maxRecDepth 20000 in
theorem gX2_isSame_X1_minutesToGo : GoodIn wsX2_isSame (wsV RX2 105 RX1 yX1_minutesToGo wsX1_minutesToGo) := goodIn_app (goodIn_of _ (by decide +kernel)) ggX2_isSame_X1_minutesToGo
set_option maxRecDepth 20000 in
theorem ggX2_isSame_X1_wouldFind : GoodIn wsX2_isSame wsX1_wouldFind := goodIn_ca (goodIn_r _ [159, 11, 137, 138, 139, 9, 140, 91, 92, 141, 142, 143, 25, 144, 145, 87, 88, 89, 90, 93, 94, 95, 96, 27, 160, 161, 162, 163, 164, 165, 102, 103, 104, 105, 106, 182, 183, 184, 185, 186, 187, 188, 189, 190, 191, 192, 193, 194, 195, 196, 197, 198] (by decide +kernel) (by decide +kernel)) (goodIn_sub (fun _ h => List.mem_cons_of_mem _ (List.mem_append_right _ h)) (by decide +kernel))
set_option maxRecDepth 20000 in
theorem gX2_isSame_X1_wouldFind : GoodIn wsX2_isSame (wsV RX2 108 RX1 yX1_wouldFind wsX1_wouldFind) := goodIn_app (goodIn_of _ (by decide +kernel)) ggX2_isSame_X1_wouldFind
set_option maxRecDepth 20000 in
theorem ggX2_isSame_X2_finds : GoodIn wsX2_isSame wsX2_finds := goodIn_r _ [168] (by decide +kernel) (by decide +kernel)
set_option maxRecDepth 20000 in
theorem gX2_isSame_X2_finds : GoodIn wsX2_isSame (va_wsS RX2 29 yX2_finds wsX2_finds) := goodIn_app (goodIn_of _ (by decide +kernel)) ggX2_isSame_X2_finds
set_option maxRecDepth 20000 in
theorem ggX2_isSame_X1_mostAlert : GoodIn wsX2_isSame wsX1_mostAlert := goodIn_r _ [172, 11, 81, 136, 182, 183, 184, 185, 186, 187, 188, 189, 190, 191, 192, 193, 194, 195, 196, 197, 198] (by decide +kernel) (by decide +kernel)
set_option maxRecDepth 20000 in
theorem gX2_isSame_X1_mostAlert : GoodIn wsX2_isSame (wsV RX2 112 RX1 yX1_mostAlert wsX1_mostAlert) := goodIn_app (goodIn_of _ (by decide +kernel)) ggX2_isSame_X1_mostAlert
set_option maxRecDepth 20000 in
theorem ggX2_isSame_X1_meanAlertness : GoodIn wsX2_isSame wsX1_meanAlertness := goodIn_r _ [176, 11, 81, 136, 182, 183, 184, 185, 186, 187, 188, 189, 190, 191, 192, 193, 194, 195, 196, 197, 198] (by decide +kernel) (by decide +kernel)
set_option maxRecDepth 20000 in
theorem gX2_isSame_X1_meanAlertness : GoodIn wsX2_isSame (wsV RX2 115 RX1 yX1_meanAlertness wsX1_meanAlertness) := goodIn_app (goodIn_of _ (by decide +kernel)) ggX2_isSame_X1_meanAlertness
theorem dX2_isSame_0 : decode cX2_isSame 0 = .ok (.aload_n 1, 1) := by decide +kernel
theorem dX2_isSame_1 : decode cX2_isSame 1 = .ok (.invokevirtual 59, 3) := by decide +kernel
theorem dX2_isSame_4 : decode cX2_isSame 4 = .ok (.aload_n 0, 1) := by decide +kernel
theorem dX2_isSame_5 : decode cX2_isSame 5 = .ok (.getfield 40, 3) := by decide +kernel
theorem dX2_isSame_8 : decode cX2_isSame 8 = .ok (.if_icmp .ne 107, 3) := by decide +kernel
theorem dX2_isSame_11 : decode cX2_isSame 11 = .ok (.aload_n 1, 1) := by decide +kernel
theorem dX2_isSame_12 : decode cX2_isSame 12 = .ok (.invokevirtual 63, 3) := by decide +kernel
theorem dX2_isSame_15 : decode cX2_isSame 15 = .ok (.aload_n 0, 1) := by decide +kernel
theorem dX2_isSame_16 : decode cX2_isSame 16 = .ok (.getfield 15, 3) := by decide +kernel
theorem dX2_isSame_19 : decode cX2_isSame 19 = .ok (.arraylength, 1) := by decide +kernel
theorem dX2_isSame_20 : decode cX2_isSame 20 = .ok (.if_icmp .ne 95, 3) := by decide +kernel
theorem dX2_isSame_23 : decode cX2_isSame 23 = .ok (.aload_n 1, 1) := by decide +kernel
theorem dX2_isSame_24 : decode cX2_isSame 24 = .ok (.invokevirtual 65, 3) := by decide +kernel
theorem dX2_isSame_27 : decode cX2_isSame 27 = .ok (.aload_n 0, 1) := by decide +kernel
theorem dX2_isSame_28 : decode cX2_isSame 28 = .ok (.iconst 0, 1) := by decide +kernel
theorem dX2_isSame_29 : decode cX2_isSame 29 = .ok (.invokevirtual 43, 3) := by decide +kernel
theorem dX2_isSame_32 : decode cX2_isSame 32 = .ok (.if_icmp .ne 83, 3) := by decide +kernel
theorem dX2_isSame_35 : decode cX2_isSame 35 = .ok (.aload_n 1, 1) := by decide +kernel
theorem dX2_isSame_36 : decode cX2_isSame 36 = .ok (.invokevirtual 68, 3) := by decide +kernel
theorem dX2_isSame_39 : decode cX2_isSame 39 = .ok (.aload_n 0, 1) := by decide +kernel
theorem dX2_isSame_40 : decode cX2_isSame 40 = .ok (.iconst 3, 1) := by decide +kernel
theorem dX2_isSame_41 : decode cX2_isSame 41 = .ok (.invokevirtual 43, 3) := by decide +kernel
theorem dX2_isSame_44 : decode cX2_isSame 44 = .ok (.if_icmp .ne 71, 3) := by decide +kernel
theorem dX2_isSame_47 : decode cX2_isSame 47 = .ok (.aload_n 1, 1) := by decide +kernel
theorem dX2_isSame_48 : decode cX2_isSame 48 = .ok (.invokevirtual 71, 3) := by decide +kernel
theorem dX2_isSame_51 : decode cX2_isSame 51 = .ok (.aload_n 0, 1) := by decide +kernel
theorem dX2_isSame_52 : decode cX2_isSame 52 = .ok (.iconst 4, 1) := by decide +kernel
theorem dX2_isSame_53 : decode cX2_isSame 53 = .ok (.invokevirtual 43, 3) := by decide +kernel
theorem dX2_isSame_56 : decode cX2_isSame 56 = .ok (.if_icmp .ne 59, 3) := by decide +kernel
theorem dX2_isSame_59 : decode cX2_isSame 59 = .ok (.aload_n 1, 1) := by decide +kernel
theorem dX2_isSame_60 : decode cX2_isSame 60 = .ok (.invokevirtual 74, 3) := by decide +kernel
theorem dX2_isSame_63 : decode cX2_isSame 63 = .ok (.aload_n 0, 1) := by decide +kernel
theorem dX2_isSame_64 : decode cX2_isSame 64 = .ok (.getfield 18, 3) := by decide +kernel
theorem dX2_isSame_67 : decode cX2_isSame 67 = .ok (.if_icmp .ne 48, 3) := by decide +kernel
theorem dX2_isSame_70 : decode cX2_isSame 70 = .ok (.aload_n 1, 1) := by decide +kernel
theorem dX2_isSame_71 : decode cX2_isSame 71 = .ok (.invokevirtual 76, 3) := by decide +kernel
theorem dX2_isSame_74 : decode cX2_isSame 74 = .ok (.aload_n 0, 1) := by decide +kernel
theorem dX2_isSame_75 : decode cX2_isSame 75 = .ok (.getfield 33, 3) := by decide +kernel
theorem dX2_isSame_78 : decode cX2_isSame 78 = .ok (.if_icmp .ne 37, 3) := by decide +kernel
theorem dX2_isSame_81 : decode cX2_isSame 81 = .ok (.aload_n 1, 1) := by decide +kernel
theorem dX2_isSame_82 : decode cX2_isSame 82 = .ok (.invokevirtual 78, 3) := by decide +kernel
theorem dX2_isSame_85 : decode cX2_isSame 85 = .ok (.aload_n 0, 1) := by decide +kernel
theorem dX2_isSame_86 : decode cX2_isSame 86 = .ok (.invokevirtual 26, 3) := by decide +kernel
theorem dX2_isSame_89 : decode cX2_isSame 89 = .ok (.if_icmp .ne 26, 3) := by decide +kernel
theorem dX2_isSame_92 : decode cX2_isSame 92 = .ok (.aload_n 1, 1) := by decide +kernel
theorem dX2_isSame_93 : decode cX2_isSame 93 = .ok (.invokevirtual 79, 3) := by decide +kernel
theorem dX2_isSame_96 : decode cX2_isSame 96 = .ok (.aload_n 0, 1) := by decide +kernel
theorem dX2_isSame_97 : decode cX2_isSame 97 = .ok (.invokevirtual 22, 3) := by decide +kernel
theorem dX2_isSame_100 : decode cX2_isSame 100 = .ok (.if_icmp .ne 15, 3) := by decide +kernel
theorem dX2_isSame_103 : decode cX2_isSame 103 = .ok (.aload_n 1, 1) := by decide +kernel
theorem dX2_isSame_104 : decode cX2_isSame 104 = .ok (.invokevirtual 82, 3) := by decide +kernel
theorem dX2_isSame_107 : decode cX2_isSame 107 = .ok (.aload_n 0, 1) := by decide +kernel
theorem dX2_isSame_108 : decode cX2_isSame 108 = .ok (.getfield 9, 3) := by decide +kernel
theorem dX2_isSame_111 : decode cX2_isSame 111 = .ok (.arraylength, 1) := by decide +kernel
theorem dX2_isSame_112 : decode cX2_isSame 112 = .ok (.if_icmp .eq 5, 3) := by decide +kernel
theorem dX2_isSame_115 : decode cX2_isSame 115 = .ok (.iconst 0, 1) := by decide +kernel
theorem dX2_isSame_116 : decode cX2_isSame 116 = .ok (.ireturn, 1) := by decide +kernel
theorem dX2_isSame_117 : decode cX2_isSame 117 = .ok (.iconst 0, 1) := by decide +kernel
theorem dX2_isSame_118 : decode cX2_isSame 118 = .ok (.istore_n 2, 1) := by decide +kernel
theorem dX2_isSame_119 : decode cX2_isSame 119 = .ok (.iconst 0, 1) := by decide +kernel
theorem dX2_isSame_120 : decode cX2_isSame 120 = .ok (.istore_n 3, 1) := by decide +kernel
theorem dX2_isSame_121 : decode cX2_isSame 121 = .ok (.iload_n 3, 1) := by decide +kernel
theorem dX2_isSame_122 : decode cX2_isSame 122 = .ok (.aload_n 0, 1) := by decide +kernel
theorem dX2_isSame_123 : decode cX2_isSame 123 = .ok (.getfield 15, 3) := by decide +kernel
theorem dX2_isSame_126 : decode cX2_isSame 126 = .ok (.arraylength, 1) := by decide +kernel
theorem dX2_isSame_127 : decode cX2_isSame 127 = .ok (.if_icmp .ge 112, 3) := by decide +kernel
theorem dX2_isSame_130 : decode cX2_isSame 130 = .ok (.aload_n 0, 1) := by decide +kernel
theorem dX2_isSame_131 : decode cX2_isSame 131 = .ok (.getfield 15, 3) := by decide +kernel
theorem dX2_isSame_134 : decode cX2_isSame 134 = .ok (.iload_n 3, 1) := by decide +kernel
theorem dX2_isSame_135 : decode cX2_isSame 135 = .ok (.aaload, 1) := by decide +kernel
theorem dX2_isSame_136 : decode cX2_isSame 136 = .ok (.astore 4, 2) := by decide +kernel
theorem dX2_isSame_138 : decode cX2_isSame 138 = .ok (.aload_n 1, 1) := by decide +kernel
theorem dX2_isSame_139 : decode cX2_isSame 139 = .ok (.iload_n 3, 1) := by decide +kernel
theorem dX2_isSame_140 : decode cX2_isSame 140 = .ok (.invokevirtual 84, 3) := by decide +kernel
theorem dX2_isSame_143 : decode cX2_isSame 143 = .ok (.aload 4, 2) := by decide +kernel
theorem dX2_isSame_145 : decode cX2_isSame 145 = .ok (.iconst 4, 1) := by decide +kernel
theorem dX2_isSame_146 : decode cX2_isSame 146 = .ok (.iaload, 1) := by decide +kernel
theorem dX2_isSame_147 : decode cX2_isSame 147 = .ok (.if_icmp .ne 69, 3) := by decide +kernel
theorem dX2_isSame_150 : decode cX2_isSame 150 = .ok (.aload_n 1, 1) := by decide +kernel
theorem dX2_isSame_151 : decode cX2_isSame 151 = .ok (.iload_n 3, 1) := by decide +kernel
theorem dX2_isSame_152 : decode cX2_isSame 152 = .ok (.invokevirtual 87, 3) := by decide +kernel
theorem dX2_isSame_155 : decode cX2_isSame 155 = .ok (.aload 4, 2) := by decide +kernel
theorem dX2_isSame_157 : decode cX2_isSame 157 = .ok (.invokestatic 36, 3) := by decide +kernel
theorem dX2_isSame_160 : decode cX2_isSame 160 = .ok (.if_icmp .ne 56, 3) := by decide +kernel
theorem dX2_isSame_163 : decode cX2_isSame 163 = .ok (.aload_n 1, 1) := by decide +kernel
theorem dX2_isSame_164 : decode cX2_isSame 164 = .ok (.iload_n 3, 1) := by decide +kernel
theorem dX2_isSame_165 : decode cX2_isSame 165 = .ok (.invokevirtual 90, 3) := by decide +kernel
theorem dX2_isSame_168 : decode cX2_isSame 168 = .ok (.aload 4, 2) := by decide +kernel
theorem dX2_isSame_170 : decode cX2_isSame 170 = .ok (.iconst 3, 1) := by decide +kernel
theorem dX2_isSame_171 : decode cX2_isSame 171 = .ok (.iaload, 1) := by decide +kernel
theorem dX2_isSame_172 : decode cX2_isSame 172 = .ok (.if_icmp .ne 44, 3) := by decide +kernel
theorem dX2_isSame_175 : decode cX2_isSame 175 = .ok (.aload_n 1, 1) := by decide +kernel
theorem dX2_isSame_176 : decode cX2_isSame 176 = .ok (.iload_n 3, 1) := by decide +kernel
theorem dX2_isSame_177 : decode cX2_isSame 177 = .ok (.invokevirtual 93, 3) := by decide +kernel
theorem dX2_isSame_180 : decode cX2_isSame 180 = .ok (.aload 4, 2) := by decide +kernel
theorem dX2_isSame_182 : decode cX2_isSame 182 = .ok (.iconst 4, 1) := by decide +kernel
theorem dX2_isSame_183 : decode cX2_isSame 183 = .ok (.iaload, 1) := by decide +kernel
theorem dX2_isSame_184 : decode cX2_isSame 184 = .ok (.ifCond .ne 7, 3) := by decide +kernel
theorem dX2_isSame_187 : decode cX2_isSame 187 = .ok (.iload_n 2, 1) := by decide +kernel
theorem dX2_isSame_188 : decode cX2_isSame 188 = .ok (.goto 4, 3) := by decide +kernel
theorem dX2_isSame_191 : decode cX2_isSame 191 = .ok (.iconst (-1), 1) := by decide +kernel
theorem dX2_isSame_192 : decode cX2_isSame 192 = .ok (.if_icmp .ne 24, 3) := by decide +kernel
theorem dX2_isSame_195 : decode cX2_isSame 195 = .ok (.aload_n 1, 1) := by decide +kernel
theorem dX2_isSame_196 : decode cX2_isSame 196 = .ok (.iload_n 3, 1) := by decide +kernel
theorem dX2_isSame_197 : decode cX2_isSame 197 = .ok (.invokevirtual 96, 3) := by decide +kernel
theorem dX2_isSame_200 : decode cX2_isSame 200 = .ok (.iconst 2, 1) := by decide +kernel
theorem dX2_isSame_201 : decode cX2_isSame 201 = .ok (.aload 4, 2) := by decide +kernel
theorem dX2_isSame_203 : decode cX2_isSame 203 = .ok (.iconst 1, 1) := by decide +kernel
theorem dX2_isSame_204 : decode cX2_isSame 204 = .ok (.iaload, 1) := by decide +kernel
theorem dX2_isSame_205 : decode cX2_isSame 205 = .ok (.iadd, 1) := by decide +kernel
theorem dX2_isSame_206 : decode cX2_isSame 206 = .ok (.aload_n 0, 1) := by decide +kernel
theorem dX2_isSame_207 : decode cX2_isSame 207 = .ok (.invokevirtual 26, 3) := by decide +kernel
theorem dX2_isSame_210 : decode cX2_isSame 210 = .ok (.iconst 4, 1) := by decide +kernel
theorem dX2_isSame_211 : decode cX2_isSame 211 = .ok (.idiv, 1) := by decide +kernel
theorem dX2_isSame_212 : decode cX2_isSame 212 = .ok (.iadd, 1) := by decide +kernel
theorem dX2_isSame_213 : decode cX2_isSame 213 = .ok (.if_icmp .eq 5, 3) := by decide +kernel
theorem dX2_isSame_216 : decode cX2_isSame 216 = .ok (.iconst 0, 1) := by decide +kernel
theorem dX2_isSame_217 : decode cX2_isSame 217 = .ok (.ireturn, 1) := by decide +kernel
theorem dX2_isSame_218 : decode cX2_isSame 218 = .ok (.iload_n 2, 1) := by decide +kernel
theorem dX2_isSame_219 : decode cX2_isSame 219 = .ok (.aload 4, 2) := by decide +kernel
theorem dX2_isSame_221 : decode cX2_isSame 221 = .ok (.iconst 4, 1) := by decide +kernel
theorem dX2_isSame_222 : decode cX2_isSame 222 = .ok (.iaload, 1) := by decide +kernel
theorem dX2_isSame_223 : decode cX2_isSame 223 = .ok (.ifCond .ne 7, 3) := by decide +kernel
theorem dX2_isSame_226 : decode cX2_isSame 226 = .ok (.iconst 1, 1) := by decide +kernel
theorem dX2_isSame_227 : decode cX2_isSame 227 = .ok (.goto 4, 3) := by decide +kernel
theorem dX2_isSame_230 : decode cX2_isSame 230 = .ok (.iconst 0, 1) := by decide +kernel
theorem dX2_isSame_231 : decode cX2_isSame 231 = .ok (.iadd, 1) := by decide +kernel
theorem dX2_isSame_232 : decode cX2_isSame 232 = .ok (.istore_n 2, 1) := by decide +kernel
theorem dX2_isSame_233 : decode cX2_isSame 233 = .ok (.iinc 3 1, 3) := by decide +kernel
theorem dX2_isSame_236 : decode cX2_isSame 236 = .ok (.goto (-115), 3) := by decide +kernel
theorem dX2_isSame_239 : decode cX2_isSame 239 = .ok (.iconst (-1), 1) := by decide +kernel
theorem dX2_isSame_240 : decode cX2_isSame 240 = .ok (.istore_n 3, 1) := by decide +kernel
theorem dX2_isSame_241 : decode cX2_isSame 241 = .ok (.iconst 0, 1) := by decide +kernel
theorem dX2_isSame_242 : decode cX2_isSame 242 = .ok (.istore 4, 2) := by decide +kernel
theorem dX2_isSame_244 : decode cX2_isSame 244 = .ok (.iconst 0, 1) := by decide +kernel
theorem dX2_isSame_245 : decode cX2_isSame 245 = .ok (.istore 5, 2) := by decide +kernel
theorem dX2_isSame_247 : decode cX2_isSame 247 = .ok (.iload 5, 2) := by decide +kernel
theorem dX2_isSame_249 : decode cX2_isSame 249 = .ok (.aload_n 0, 1) := by decide +kernel
theorem dX2_isSame_250 : decode cX2_isSame 250 = .ok (.getfield 9, 3) := by decide +kernel
theorem dX2_isSame_253 : decode cX2_isSame 253 = .ok (.arraylength, 1) := by decide +kernel
theorem dX2_isSame_254 : decode cX2_isSame 254 = .ok (.if_icmp .ge 134, 3) := by decide +kernel
theorem dX2_isSame_257 : decode cX2_isSame 257 = .ok (.aload_n 0, 1) := by decide +kernel
theorem dX2_isSame_258 : decode cX2_isSame 258 = .ok (.getfield 9, 3) := by decide +kernel
theorem dX2_isSame_261 : decode cX2_isSame 261 = .ok (.iload 5, 2) := by decide +kernel
theorem dX2_isSame_263 : decode cX2_isSame 263 = .ok (.aaload, 1) := by decide +kernel
theorem dX2_isSame_264 : decode cX2_isSame 264 = .ok (.astore 6, 2) := by decide +kernel
theorem dX2_isSame_266 : decode cX2_isSame 266 = .ok (.iload_n 3, 1) := by decide +kernel
theorem dX2_isSame_267 : decode cX2_isSame 267 = .ok (.ifCond .lt 18, 3) := by decide +kernel
theorem dX2_isSame_270 : decode cX2_isSame 270 = .ok (.aload 6, 2) := by decide +kernel
theorem dX2_isSame_272 : decode cX2_isSame 272 = .ok (.iconst 0, 1) := by decide +kernel
theorem dX2_isSame_273 : decode cX2_isSame 273 = .ok (.iaload, 1) := by decide +kernel
theorem dX2_isSame_274 : decode cX2_isSame 274 = .ok (.aload_n 0, 1) := by decide +kernel
theorem dX2_isSame_275 : decode cX2_isSame 275 = .ok (.getfield 9, 3) := by decide +kernel
theorem dX2_isSame_278 : decode cX2_isSame 278 = .ok (.iload_n 3, 1) := by decide +kernel
theorem dX2_isSame_279 : decode cX2_isSame 279 = .ok (.aaload, 1) := by decide +kernel
theorem dX2_isSame_280 : decode cX2_isSame 280 = .ok (.iconst 0, 1) := by decide +kernel
theorem dX2_isSame_281 : decode cX2_isSame 281 = .ok (.iaload, 1) := by decide +kernel
theorem dX2_isSame_282 : decode cX2_isSame 282 = .ok (.if_icmp .le 6, 3) := by decide +kernel
theorem dX2_isSame_285 : decode cX2_isSame 285 = .ok (.iload 5, 2) := by decide +kernel
theorem dX2_isSame_287 : decode cX2_isSame 287 = .ok (.istore_n 3, 1) := by decide +kernel
theorem dX2_isSame_288 : decode cX2_isSame 288 = .ok (.iload 4, 2) := by decide +kernel
theorem dX2_isSame_290 : decode cX2_isSame 290 = .ok (.aload 6, 2) := by decide +kernel
theorem dX2_isSame_292 : decode cX2_isSame 292 = .ok (.iconst 0, 1) := by decide +kernel
theorem dX2_isSame_293 : decode cX2_isSame 293 = .ok (.iaload, 1) := by decide +kernel
theorem dX2_isSame_294 : decode cX2_isSame 294 = .ok (.iadd, 1) := by decide +kernel
theorem dX2_isSame_295 : decode cX2_isSame 295 = .ok (.istore 4, 2) := by decide +kernel
theorem dX2_isSame_297 : decode cX2_isSame 297 = .ok (.aload_n 1, 1) := by decide +kernel
theorem dX2_isSame_298 : decode cX2_isSame 298 = .ok (.iload 5, 2) := by decide +kernel
theorem dX2_isSame_300 : decode cX2_isSame 300 = .ok (.invokevirtual 99, 3) := by decide +kernel
theorem dX2_isSame_303 : decode cX2_isSame 303 = .ok (.aload 6, 2) := by decide +kernel
theorem dX2_isSame_305 : decode cX2_isSame 305 = .ok (.iconst 0, 1) := by decide +kernel
theorem dX2_isSame_306 : decode cX2_isSame 306 = .ok (.iaload, 1) := by decide +kernel
theorem dX2_isSame_307 : decode cX2_isSame 307 = .ok (.if_icmp .ne 29, 3) := by decide +kernel
theorem dX2_isSame_310 : decode cX2_isSame 310 = .ok (.aload_n 1, 1) := by decide +kernel
theorem dX2_isSame_311 : decode cX2_isSame 311 = .ok (.iload 5, 2) := by decide +kernel
theorem dX2_isSame_313 : decode cX2_isSame 313 = .ok (.invokevirtual 102, 3) := by decide +kernel
theorem dX2_isSame_316 : decode cX2_isSame 316 = .ok (.aload 6, 2) := by decide +kernel
theorem dX2_isSame_318 : decode cX2_isSame 318 = .ok (.iconst 1, 1) := by decide +kernel
theorem dX2_isSame_319 : decode cX2_isSame 319 = .ok (.iaload, 1) := by decide +kernel
theorem dX2_isSame_320 : decode cX2_isSame 320 = .ok (.if_icmp .ne 16, 3) := by decide +kernel
theorem dX2_isSame_323 : decode cX2_isSame 323 = .ok (.aload_n 1, 1) := by decide +kernel
theorem dX2_isSame_324 : decode cX2_isSame 324 = .ok (.iload 5, 2) := by decide +kernel
theorem dX2_isSame_326 : decode cX2_isSame 326 = .ok (.invokevirtual 105, 3) := by decide +kernel
theorem dX2_isSame_329 : decode cX2_isSame 329 = .ok (.aload 6, 2) := by decide +kernel
theorem dX2_isSame_331 : decode cX2_isSame 331 = .ok (.iconst 2, 1) := by decide +kernel
theorem dX2_isSame_332 : decode cX2_isSame 332 = .ok (.iaload, 1) := by decide +kernel
theorem dX2_isSame_333 : decode cX2_isSame 333 = .ok (.if_icmp .eq 5, 3) := by decide +kernel
theorem dX2_isSame_336 : decode cX2_isSame 336 = .ok (.iconst 0, 1) := by decide +kernel
theorem dX2_isSame_337 : decode cX2_isSame 337 = .ok (.ireturn, 1) := by decide +kernel
theorem dX2_isSame_338 : decode cX2_isSame 338 = .ok (.iconst 0, 1) := by decide +kernel
theorem dX2_isSame_339 : decode cX2_isSame 339 = .ok (.istore 7, 2) := by decide +kernel
theorem dX2_isSame_341 : decode cX2_isSame 341 = .ok (.iload 7, 2) := by decide +kernel
theorem dX2_isSame_343 : decode cX2_isSame 343 = .ok (.aload_n 0, 1) := by decide +kernel
theorem dX2_isSame_344 : decode cX2_isSame 344 = .ok (.getfield 15, 3) := by decide +kernel
theorem dX2_isSame_347 : decode cX2_isSame 347 = .ok (.arraylength, 1) := by decide +kernel
theorem dX2_isSame_348 : decode cX2_isSame 348 = .ok (.if_icmp .ge 34, 3) := by decide +kernel
theorem dX2_isSame_351 : decode cX2_isSame 351 = .ok (.aload_n 1, 1) := by decide +kernel
theorem dX2_isSame_352 : decode cX2_isSame 352 = .ok (.iload 5, 2) := by decide +kernel
theorem dX2_isSame_354 : decode cX2_isSame 354 = .ok (.iload 7, 2) := by decide +kernel
theorem dX2_isSame_356 : decode cX2_isSame 356 = .ok (.invokevirtual 108, 3) := by decide +kernel
theorem dX2_isSame_359 : decode cX2_isSame 359 = .ok (.aload 6, 2) := by decide +kernel
theorem dX2_isSame_361 : decode cX2_isSame 361 = .ok (.aload_n 0, 1) := by decide +kernel
theorem dX2_isSame_362 : decode cX2_isSame 362 = .ok (.getfield 15, 3) := by decide +kernel
theorem dX2_isSame_365 : decode cX2_isSame 365 = .ok (.iload 7, 2) := by decide +kernel
theorem dX2_isSame_367 : decode cX2_isSame 367 = .ok (.aaload, 1) := by decide +kernel
theorem dX2_isSame_368 : decode cX2_isSame 368 = .ok (.invokestatic 29, 3) := by decide +kernel
theorem dX2_isSame_371 : decode cX2_isSame 371 = .ok (.if_icmp .eq 5, 3) := by decide +kernel
theorem dX2_isSame_374 : decode cX2_isSame 374 = .ok (.iconst 0, 1) := by decide +kernel
theorem dX2_isSame_375 : decode cX2_isSame 375 = .ok (.ireturn, 1) := by decide +kernel
theorem dX2_isSame_376 : decode cX2_isSame 376 = .ok (.iinc 7 1, 3) := by decide +kernel
theorem dX2_isSame_379 : decode cX2_isSame 379 = .ok (.goto (-38), 3) := by decide +kernel
theorem dX2_isSame_382 : decode cX2_isSame 382 = .ok (.iinc 5 1, 3) := by decide +kernel
theorem dX2_isSame_385 : decode cX2_isSame 385 = .ok (.goto (-138), 3) := by decide +kernel
theorem dX2_isSame_388 : decode cX2_isSame 388 = .ok (.aload_n 1, 1) := by decide +kernel
theorem dX2_isSame_389 : decode cX2_isSame 389 = .ok (.invokevirtual 112, 3) := by decide +kernel
theorem dX2_isSame_392 : decode cX2_isSame 392 = .ok (.iload_n 3, 1) := by decide +kernel
theorem dX2_isSame_393 : decode cX2_isSame 393 = .ok (.if_icmp .ne 37, 3) := by decide +kernel
theorem dX2_isSame_396 : decode cX2_isSame 396 = .ok (.aload_n 1, 1) := by decide +kernel
theorem dX2_isSame_397 : decode cX2_isSame 397 = .ok (.invokevirtual 115, 3) := by decide +kernel
theorem dX2_isSame_400 : decode cX2_isSame 400 = .ok (.aload_n 0, 1) := by decide +kernel
theorem dX2_isSame_401 : decode cX2_isSame 401 = .ok (.getfield 9, 3) := by decide +kernel
theorem dX2_isSame_404 : decode cX2_isSame 404 = .ok (.arraylength, 1) := by decide +kernel
theorem dX2_isSame_405 : decode cX2_isSame 405 = .ok (.ifCond .ne 7, 3) := by decide +kernel
theorem dX2_isSame_408 : decode cX2_isSame 408 = .ok (.dconst 0, 1) := by decide +kernel
theorem dX2_isSame_409 : decode cX2_isSame 409 = .ok (.goto 13, 3) := by decide +kernel
theorem dX2_isSame_412 : decode cX2_isSame 412 = .ok (.iload 4, 2) := by decide +kernel
theorem dX2_isSame_414 : decode cX2_isSame 414 = .ok (.i2d, 1) := by decide +kernel
theorem dX2_isSame_415 : decode cX2_isSame 415 = .ok (.aload_n 0, 1) := by decide +kernel
theorem dX2_isSame_416 : decode cX2_isSame 416 = .ok (.getfield 9, 3) := by decide +kernel
theorem dX2_isSame_419 : decode cX2_isSame 419 = .ok (.arraylength, 1) := by decide +kernel
theorem dX2_isSame_420 : decode cX2_isSame 420 = .ok (.i2d, 1) := by decide +kernel
theorem dX2_isSame_421 : decode cX2_isSame 421 = .ok (.ddiv, 1) := by decide +kernel
theorem dX2_isSame_422 : decode cX2_isSame 422 = .ok (.dcmp .l, 1) := by decide +kernel
theorem dX2_isSame_423 : decode cX2_isSame 423 = .ok (.ifCond .ne 7, 3) := by decide +kernel
theorem dX2_isSame_426 : decode cX2_isSame 426 = .ok (.iconst 1, 1) := by decide +kernel
theorem dX2_isSame_427 : decode cX2_isSame 427 = .ok (.goto 4, 3) := by decide +kernel
theorem dX2_isSame_430 : decode cX2_isSame 430 = .ok (.iconst 0, 1) := by decide +kernel
theorem dX2_isSame_431 : decode cX2_isSame 431 = .ok (.ireturn, 1) := by decide +kernel
theorem dJ9_max_7cf53_0 : decode cJ9_max_7cf53 0 = .ok (.iload_n 0, 1) := by decide +kernel
theorem dJ9_max_7cf53_1 : decode cJ9_max_7cf53 1 = .ok (.iload_n 1, 1) := by decide +kernel
theorem dJ9_max_7cf53_2 : decode cJ9_max_7cf53 2 = .ok (.if_icmp .lt 7, 3) := by decide +kernel
theorem dJ9_max_7cf53_5 : decode cJ9_max_7cf53 5 = .ok (.iload_n 0, 1) := by decide +kernel
theorem dJ9_max_7cf53_6 : decode cJ9_max_7cf53 6 = .ok (.goto 4, 3) := by decide +kernel
theorem dJ9_max_7cf53_9 : decode cJ9_max_7cf53 9 = .ok (.iload_n 1, 1) := by decide +kernel
theorem dJ9_max_7cf53_10 : decode cJ9_max_7cf53 10 = .ok (.ireturn, 1) := by decide +kernel
theorem dJ9_min_7cf53_0 : decode cJ9_min_7cf53 0 = .ok (.iload_n 0, 1) := by decide +kernel
theorem dJ9_min_7cf53_1 : decode cJ9_min_7cf53 1 = .ok (.iload_n 1, 1) := by decide +kernel
theorem dJ9_min_7cf53_2 : decode cJ9_min_7cf53 2 = .ok (.if_icmp .gt 7, 3) := by decide +kernel
theorem dJ9_min_7cf53_5 : decode cJ9_min_7cf53 5 = .ok (.iload_n 0, 1) := by decide +kernel
theorem dJ9_min_7cf53_6 : decode cJ9_min_7cf53 6 = .ok (.goto 4, 3) := by decide +kernel
theorem dJ9_min_7cf53_9 : decode cJ9_min_7cf53 9 = .ok (.iload_n 1, 1) := by decide +kernel
theorem dJ9_min_7cf53_10 : decode cJ9_min_7cf53 10 = .ok (.ireturn, 1) := by decide +kernel
end
section
theorem dL_below_0 : decode cL_below 0 = .ok (.iload_n 0, 1) := by decide +kernel
theorem dL_below_1 : decode cL_below 1 = .ok (.ldc 7, 2) := by decide +kernel
theorem dL_below_3 : decode cL_below 3 = .ok (.iand, 1) := by decide +kernel
theorem dL_below_4 : decode cL_below 4 = .ok (.iload_n 1, 1) := by decide +kernel
theorem dL_below_5 : decode cL_below 5 = .ok (.irem, 1) := by decide +kernel
theorem dL_below_6 : decode cL_below 6 = .ok (.ireturn, 1) := by decide +kernel
theorem dL_cell_0 : decode cL_cell 0 = .ok (.iload_n 1, 1) := by decide +kernel
theorem dL_cell_1 : decode cL_cell 1 = .ok (.aload_n 0, 1) := by decide +kernel
theorem dL_cell_2 : decode cL_cell 2 = .ok (.arraylength, 1) := by decide +kernel
theorem dL_cell_3 : decode cL_cell 3 = .ok (.if_icmp .ge 9, 3) := by decide +kernel
theorem dL_cell_6 : decode cL_cell 6 = .ok (.aload_n 0, 1) := by decide +kernel
theorem dL_cell_7 : decode cL_cell 7 = .ok (.iload_n 1, 1) := by decide +kernel
theorem dL_cell_8 : decode cL_cell 8 = .ok (.iaload, 1) := by decide +kernel
theorem dL_cell_9 : decode cL_cell 9 = .ok (.goto 9, 3) := by decide +kernel
theorem dL_cell_12 : decode cL_cell 12 = .ok (.ldc 8, 2) := by decide +kernel
theorem dL_cell_14 : decode cL_cell 14 = .ok (.iload_n 1, 1) := by decide +kernel
theorem dL_cell_15 : decode cL_cell 15 = .ok (.iconst 3, 1) := by decide +kernel
theorem dL_cell_16 : decode cL_cell 16 = .ok (.iadd, 1) := by decide +kernel
theorem dL_cell_17 : decode cL_cell 17 = .ok (.imul, 1) := by decide +kernel
theorem dL_cell_18 : decode cL_cell 18 = .ok (.ireturn, 1) := by decide +kernel
set_option maxRecDepth 20000 in
theorem ggL_act_L_below : GoodIn wsL_act wsL_below := goodIn_r _ [7, 8] (by decide +kernel) (by decide +kernel)
set_option maxRecDepth 20000 in
theorem gL_act_L_below : GoodIn wsL_act (va_wsS RL 18 yL_below wsL_below) := goodIn_app (goodIn_of _ (by decide +kernel)) ggL_act_L_below
set_option maxRecDepth 20000 in
theorem ggL_act_X2_with : GoodIn wsL_act wsX2_with := goodIn_r _ [12, 13] (by decide +kernel) (by decide +kernel)
set_option maxRecDepth 20000 in
theorem gL_act_X2_with : GoodIn wsL_act (va_wsS RL 24 yX2_with wsX2_with) := goodIn_app (goodIn_of _ (by decide +kernel)) ggL_act_X2_with
set_option maxRecDepth 20000 in
theorem ggL_act_X1_addGuard : GoodIn wsL_act wsX1_addGuard := goodIn_ca (goodIn_r _ [18, 19, 20, 21, 22, 23, 24, 25, 26, 27, 28, 29, 30, 31, 191, 192, 193, 194, 195, 196, 197, 198, 199, 200, 201, 202, 203, 204, 205, 206, 207] (by decide +kernel) (by decide +kernel)) (goodIn_sub (fun _ h => List.mem_cons_of_mem _ (List.mem_append_left _ (List.mem_append_left _ (List.mem_append_right _ h)))) (by decide +kernel))
set_option maxRecDepth 20000 in
theorem gL_act_X1_addGuard : GoodIn wsL_act (wsV RL 28 RX1 yX1_addGuard wsX1_addGuard) := goodIn_app (goodIn_of _ (by decide +kernel)) ggL_act_X1_addGuard
set_option maxRecDepth 20000 in
theorem ggL_act_X1_arrive : GoodIn wsL_act wsX1_arrive := goodIn_ca (goodIn_ca (goodIn_r _ [35, 19, 20, 21, 36, 37, 38, 17, 39, 40, 41, 42, 43, 44, 45, 46, 47, 26, 48, 49, 50, 51, 52, 53, 54, 191, 192, 193, 194, 195, 196, 197, 198, 199, 200, 201, 202, 203, 204, 205, 206, 207] (by decide +kernel) (by decide +kernel)) (goodIn_sub (fun _ h => List.mem_cons_of_mem _ (List.mem_append_left _ (List.mem_append_left _ (List.mem_append_right _ h)))) (by decide +kernel))) (goodIn_sub (fun _ h => List.mem_cons_of_mem _ (List.mem_append_left _ (List.mem_append_right _ h))) (by decide +kernel))
set_option maxRecDepth 20000 in
theorem gL_act_X1_arrive : GoodIn wsL_act (wsV RL 34 RX1 yX1_arrive wsX1_arrive) := goodIn_app (goodIn_of _ (by decide +kernel)) ggL_act_X1_arrive
set_option maxRecDepth 20000 in
theorem ggL_act_X1_declare : GoodIn wsL_act wsX1_declare := goodIn_ca (goodIn_ca (goodIn_ca (goodIn_r _ [58, 21, 59, 60, 61, 62, 17, 63, 64, 65, 66, 67, 68, 26, 69, 49, 37, 38, 39, 40, 41, 70, 71, 72, 73, 19, 20, 74, 191, 192, 193, 194, 195, 196, 197, 198, 199, 200, 201, 202, 203, 204, 205, 206, 207] (by decide +kernel) (by decide +kernel)) (goodIn_sub (fun _ h => List.mem_cons_of_mem _ (List.mem_append_right _ h)) (by decide +kernel))) (goodIn_sub (fun _ h => List.mem_cons_of_mem _ (List.mem_append_left _ (List.mem_append_right _ h))) (by decide +kernel))) (goodIn_sub (fun _ h => List.mem_cons_of_mem _ (List.mem_append_left _ (List.mem_append_left _ (List.mem_append_right _ h)))) (by decide +kernel))
set_option maxRecDepth 20000 in
theorem gL_act_X1_declare : GoodIn wsL_act (wsV RL 38 RX1 yX1_declare wsX1_declare) := goodIn_app (goodIn_of _ (by decide +kernel)) ggL_act_X1_declare
set_option maxRecDepth 20000 in
theorem ggL_act_X1_sing : GoodIn wsL_act wsX1_sing := goodIn_ca (goodIn_ca (goodIn_ca (goodIn_r _ [78, 21, 79, 60, 61, 62, 17, 63, 64, 65, 66, 67, 68, 26, 69, 49, 42, 43, 44, 40, 41, 70, 71, 72, 73, 19, 20, 74, 191, 192, 193, 194, 195, 196, 197, 198, 199, 200, 201, 202, 203, 204, 205, 206, 207] (by decide +kernel) (by decide +kernel)) (goodIn_sub (fun _ h => List.mem_cons_of_mem _ (List.mem_append_right _ h)) (by decide +kernel))) (goodIn_sub (fun _ h => List.mem_cons_of_mem _ (List.mem_append_left _ (List.mem_append_right _ h))) (by decide +kernel))) (goodIn_sub (fun _ h => List.mem_cons_of_mem _ (List.mem_append_left _ (List.mem_append_left _ (List.mem_append_right _ h)))) (by decide +kernel))
set_option maxRecDepth 20000 in
theorem gL_act_X1_sing : GoodIn wsL_act (wsV RL 41 RX1 yX1_sing wsX1_sing) := goodIn_app (goodIn_of _ (by decide +kernel)) ggL_act_X1_sing
set_option maxRecDepth 20000 in
theorem ggL_act_X1_wake : GoodIn wsL_act wsX1_wake := goodIn_ca (goodIn_r _ [83, 21, 84, 85, 86, 87, 17, 88, 64, 65, 89, 90, 91, 26, 92, 28, 191, 192, 193, 194, 195, 196, 197, 198, 199, 200, 201, 202, 203, 204, 205, 206, 207] (by decide +kernel) (by decide +kernel)) (goodIn_sub (fun _ h => List.mem_cons_of_mem _ (List.mem_append_right _ h)) (by decide +kernel))
set_option maxRecDepth 20000 in
theorem gL_act_X1_wake : GoodIn wsL_act (wsV RL 44 RX1 yX1_wake wsX1_wake) := goodIn_app (goodIn_of _ (by decide +kernel)) ggL_act_X1_wake
set_option maxRecDepth 20000 in
theorem ggL_act_X1_pass : GoodIn wsL_act wsX1_pass := goodIn_ca (goodIn_r _ [96, 21, 42, 43, 17, 44, 40, 41, 97, 98, 99, 26, 100, 49, 54, 101, 102, 103, 104, 28, 30, 105, 106, 107, 108, 109, 110, 111, 112, 113, 114, 115, 53, 116, 117, 67, 68, 69, 118, 119, 120, 121, 31, 122, 29, 123, 124, 125, 126, 127, 128, 129, 130, 131, 132, 133, 134, 50, 51, 135, 136, 137, 138, 139, 140, 141, 142, 143, 144, 145, 146, 147, 148, 149, 150, 151, 152, 153, 52, 191, 192, 193, 194, 195, 196, 197, 198, 199, 200, 201, 202, 203, 204, 205, 206, 207] (by decide +kernel) (by decide +kernel)) (goodIn_sub (fun _ h => List.mem_cons_of_mem _ (List.mem_append_left _ (List.mem_append_right _ h))) (by decide +kernel))
set_option maxRecDepth 20000 in
theorem gL_act_X1_pass : GoodIn wsL_act (wsV RL 48 RX1 yX1_pass wsX1_pass) := goodIn_app (goodIn_of _ (by decide +kernel)) ggL_act_X1_pass
set_option maxRecDepth 20000 in
theorem ggL_act_X2_behind : GoodIn wsL_act wsX2_behind := goodIn_r _ [157, 158, 159, 160, 11, 161, 162, 163, 164, 165, 166, 167, 168, 169, 170, 171, 172, 173, 174, 175, 176, 177, 178, 179, 180, 181, 182, 183, 184, 185, 186, 187, 188, 189, 190] (by decide +kernel) (by decide +kernel)
set_option maxRecDepth 20000 in
theorem gL_act_X2_behind : GoodIn wsL_act (wsV RL 51 RX2 yX2_behind wsX2_behind) := goodIn_app (goodIn_of _ (by decide +kernel)) ggL_act_X2_behind
theorem dL_act_0 : decode cL_act 0 = .ok (.aload_n 1, 1) := by decide +kernel
theorem dL_act_1 : decode cL_act 1 = .ok (.getfield 9, 3) := by decide +kernel
theorem dL_act_4 : decode cL_act 4 = .ok (.arraylength, 1) := by decide +kernel
theorem dL_act_5 : decode cL_act 5 = .ok (.istore_n 3, 1) := by decide +kernel
theorem dL_act_6 : decode cL_act 6 = .ok (.aload_n 1, 1) := by decide +kernel
theorem dL_act_7 : decode cL_act 7 = .ok (.getfield 15, 3) := by decide +kernel
theorem dL_act_10 : decode cL_act 10 = .ok (.arraylength, 1) := by decide +kernel
theorem dL_act_11 : decode cL_act 11 = .ok (.istore 4, 2) := by decide +kernel
theorem dL_act_13 : decode cL_act 13 = .ok (.iload_n 2, 1) := by decide +kernel
theorem dL_act_14 : decode cL_act 14 = .ok (.bipush 9, 2) := by decide +kernel
theorem dL_act_16 : decode cL_act 16 = .ok (.ishr, 1) := by decide +kernel
theorem dL_act_17 : decode cL_act 17 = .ok (.bipush 16, 2) := by decide +kernel
theorem dL_act_19 : decode cL_act 19 = .ok (.invokestatic 18, 3) := by decide +kernel
theorem dL_act_22 : decode cL_act 22 = .ok (.istore 5, 2) := by decide +kernel
theorem dL_act_24 : decode cL_act 24 = .ok (.iload 5, 2) := by decide +kernel
theorem dL_act_26 : decode cL_act 26 = .ok (.ifCond .ne 53, 3) := by decide +kernel
theorem dL_act_29 : decode cL_act 29 = .ok (.iload 4, 2) := by decide +kernel
theorem dL_act_31 : decode cL_act 31 = .ok (.iconst 4, 1) := by decide +kernel
theorem dL_act_32 : decode cL_act 32 = .ok (.if_icmp .ne 5, 3) := by decide +kernel
theorem dL_act_35 : decode cL_act 35 = .ok (.iconst 1, 1) := by decide +kernel
theorem dL_act_36 : decode cL_act 36 = .ok (.ireturn, 1) := by decide +kernel
theorem dL_act_37 : decode cL_act 37 = .ok (.aload_n 1, 1) := by decide +kernel
theorem dL_act_38 : decode cL_act 38 = .ok (.aload_n 1, 1) := by decide +kernel
theorem dL_act_39 : decode cL_act 39 = .ok (.getfield 15, 3) := by decide +kernel
theorem dL_act_42 : decode cL_act 42 = .ok (.iconst 3, 1) := by decide +kernel
theorem dL_act_43 : decode cL_act 43 = .ok (.newarray .int, 2) := by decide +kernel
theorem dL_act_45 : decode cL_act 45 = .ok (.dup, 1) := by decide +kernel
theorem dL_act_46 : decode cL_act 46 = .ok (.iconst 0, 1) := by decide +kernel
theorem dL_act_47 : decode cL_act 47 = .ok (.bipush 9, 2) := by decide +kernel
theorem dL_act_49 : decode cL_act 49 = .ok (.iastore, 1) := by decide +kernel
theorem dL_act_50 : decode cL_act 50 = .ok (.dup, 1) := by decide +kernel
theorem dL_act_51 : decode cL_act 51 = .ok (.iconst 1, 1) := by decide +kernel
theorem dL_act_52 : decode cL_act 52 = .ok (.iconst (-1), 1) := by decide +kernel
theorem dL_act_53 : decode cL_act 53 = .ok (.iastore, 1) := by decide +kernel
theorem dL_act_54 : decode cL_act 54 = .ok (.dup, 1) := by decide +kernel
theorem dL_act_55 : decode cL_act 55 = .ok (.iconst 2, 1) := by decide +kernel
theorem dL_act_56 : decode cL_act 56 = .ok (.iconst 0, 1) := by decide +kernel
theorem dL_act_57 : decode cL_act 57 = .ok (.iastore, 1) := by decide +kernel
theorem dL_act_58 : decode cL_act 58 = .ok (.invokestatic 24, 3) := by decide +kernel
theorem dL_act_61 : decode cL_act 61 = .ok (.putfield 15, 3) := by decide +kernel
theorem dL_act_64 : decode cL_act 64 = .ok (.aload_n 0, 1) := by decide +kernel
theorem dL_act_65 : decode cL_act 65 = .ok (.invokevirtual 28, 3) := by decide +kernel
theorem dL_act_68 : decode cL_act 68 = .ok (.iload 4, 2) := by decide +kernel
theorem dL_act_70 : decode cL_act 70 = .ok (.if_icmp .ne 7, 3) := by decide +kernel
theorem dL_act_73 : decode cL_act 73 = .ok (.iconst 1, 1) := by decide +kernel
theorem dL_act_74 : decode cL_act 74 = .ok (.goto 4, 3) := by decide +kernel
theorem dL_act_77 : decode cL_act 77 = .ok (.iconst 0, 1) := by decide +kernel
theorem dL_act_78 : decode cL_act 78 = .ok (.ireturn, 1) := by decide +kernel
theorem dL_act_79 : decode cL_act 79 = .ok (.iload_n 3, 1) := by decide +kernel
theorem dL_act_80 : decode cL_act 80 = .ok (.ifCond .eq 9, 3) := by decide +kernel
theorem dL_act_83 : decode cL_act 83 = .ok (.iload 5, 2) := by decide +kernel
theorem dL_act_85 : decode cL_act 85 = .ok (.iconst 5, 1) := by decide +kernel
theorem dL_act_86 : decode cL_act 86 = .ok (.if_icmp .ge 140, 3) := by decide +kernel
theorem dL_act_89 : decode cL_act 89 = .ok (.iload_n 3, 1) := by decide +kernel
theorem dL_act_90 : decode cL_act 90 = .ok (.bipush 24, 2) := by decide +kernel
theorem dL_act_92 : decode cL_act 92 = .ok (.if_icmp .ne 5, 3) := by decide +kernel
theorem dL_act_95 : decode cL_act 95 = .ok (.iconst 1, 1) := by decide +kernel
theorem dL_act_96 : decode cL_act 96 = .ok (.ireturn, 1) := by decide +kernel
theorem dL_act_97 : decode cL_act 97 = .ok (.bipush 6, 2) := by decide +kernel
theorem dL_act_99 : decode cL_act 99 = .ok (.newarray .int, 2) := by decide +kernel
theorem dL_act_101 : decode cL_act 101 = .ok (.dup, 1) := by decide +kernel
theorem dL_act_102 : decode cL_act 102 = .ok (.iconst 0, 1) := by decide +kernel
theorem dL_act_103 : decode cL_act 103 = .ok (.iload_n 2, 1) := by decide +kernel
theorem dL_act_104 : decode cL_act 104 = .ok (.iconst 1, 1) := by decide +kernel
theorem dL_act_105 : decode cL_act 105 = .ok (.ishr, 1) := by decide +kernel
theorem dL_act_106 : decode cL_act 106 = .ok (.bipush 10, 2) := by decide +kernel
theorem dL_act_108 : decode cL_act 108 = .ok (.invokestatic 18, 3) := by decide +kernel
theorem dL_act_111 : decode cL_act 111 = .ok (.iastore, 1) := by decide +kernel
theorem dL_act_112 : decode cL_act 112 = .ok (.dup, 1) := by decide +kernel
theorem dL_act_113 : decode cL_act 113 = .ok (.iconst 1, 1) := by decide +kernel
theorem dL_act_114 : decode cL_act 114 = .ok (.iload_n 2, 1) := by decide +kernel
theorem dL_act_115 : decode cL_act 115 = .ok (.iconst 3, 1) := by decide +kernel
theorem dL_act_116 : decode cL_act 116 = .ok (.ishr, 1) := by decide +kernel
theorem dL_act_117 : decode cL_act 117 = .ok (.iload_n 2, 1) := by decide +kernel
theorem dL_act_118 : decode cL_act 118 = .ok (.iconst 2, 1) := by decide +kernel
theorem dL_act_119 : decode cL_act 119 = .ok (.invokestatic 18, 3) := by decide +kernel
theorem dL_act_122 : decode cL_act 122 = .ok (.ifCond .ne 8, 3) := by decide +kernel
theorem dL_act_125 : decode cL_act 125 = .ok (.bipush 10, 2) := by decide +kernel
theorem dL_act_127 : decode cL_act 127 = .ok (.goto 4, 3) := by decide +kernel
theorem dL_act_130 : decode cL_act 130 = .ok (.iconst 3, 1) := by decide +kernel
theorem dL_act_131 : decode cL_act 131 = .ok (.invokestatic 18, 3) := by decide +kernel
theorem dL_act_134 : decode cL_act 134 = .ok (.iastore, 1) := by decide +kernel
theorem dL_act_135 : decode cL_act 135 = .ok (.dup, 1) := by decide +kernel
theorem dL_act_136 : decode cL_act 136 = .ok (.iconst 2, 1) := by decide +kernel
theorem dL_act_137 : decode cL_act 137 = .ok (.iload_n 2, 1) := by decide +kernel
theorem dL_act_138 : decode cL_act 138 = .ok (.iconst 5, 1) := by decide +kernel
theorem dL_act_139 : decode cL_act 139 = .ok (.ishr, 1) := by decide +kernel
theorem dL_act_140 : decode cL_act 140 = .ok (.bipush 10, 2) := by decide +kernel
theorem dL_act_142 : decode cL_act 142 = .ok (.invokestatic 18, 3) := by decide +kernel
theorem dL_act_145 : decode cL_act 145 = .ok (.iastore, 1) := by decide +kernel
theorem dL_act_146 : decode cL_act 146 = .ok (.dup, 1) := by decide +kernel
theorem dL_act_147 : decode cL_act 147 = .ok (.iconst 3, 1) := by decide +kernel
theorem dL_act_148 : decode cL_act 148 = .ok (.iconst 1, 1) := by decide +kernel
theorem dL_act_149 : decode cL_act 149 = .ok (.iload_n 2, 1) := by decide +kernel
theorem dL_act_150 : decode cL_act 150 = .ok (.bipush 7, 2) := by decide +kernel
theorem dL_act_152 : decode cL_act 152 = .ok (.ishr, 1) := by decide +kernel
theorem dL_act_153 : decode cL_act 153 = .ok (.iload_n 2, 1) := by decide +kernel
theorem dL_act_154 : decode cL_act 154 = .ok (.iconst 3, 1) := by decide +kernel
theorem dL_act_155 : decode cL_act 155 = .ok (.invokestatic 18, 3) := by decide +kernel
theorem dL_act_158 : decode cL_act 158 = .ok (.ifCond .ne 8, 3) := by decide +kernel
theorem dL_act_161 : decode cL_act 161 = .ok (.bipush 12, 2) := by decide +kernel
theorem dL_act_163 : decode cL_act 163 = .ok (.goto 5, 3) := by decide +kernel
theorem dL_act_166 : decode cL_act 166 = .ok (.bipush 60, 2) := by decide +kernel
theorem dL_act_168 : decode cL_act 168 = .ok (.invokestatic 18, 3) := by decide +kernel
theorem dL_act_171 : decode cL_act 171 = .ok (.iadd, 1) := by decide +kernel
theorem dL_act_172 : decode cL_act 172 = .ok (.iastore, 1) := by decide +kernel
theorem dL_act_173 : decode cL_act 173 = .ok (.dup, 1) := by decide +kernel
theorem dL_act_174 : decode cL_act 174 = .ok (.iconst 4, 1) := by decide +kernel
theorem dL_act_175 : decode cL_act 175 = .ok (.iconst 0, 1) := by decide +kernel
theorem dL_act_176 : decode cL_act 176 = .ok (.iastore, 1) := by decide +kernel
theorem dL_act_177 : decode cL_act 177 = .ok (.dup, 1) := by decide +kernel
theorem dL_act_178 : decode cL_act 178 = .ok (.iconst 5, 1) := by decide +kernel
theorem dL_act_179 : decode cL_act 179 = .ok (.iconst 0, 1) := by decide +kernel
theorem dL_act_180 : decode cL_act 180 = .ok (.iastore, 1) := by decide +kernel
theorem dL_act_181 : decode cL_act 181 = .ok (.astore 6, 2) := by decide +kernel
theorem dL_act_183 : decode cL_act 183 = .ok (.aload_n 1, 1) := by decide +kernel
theorem dL_act_184 : decode cL_act 184 = .ok (.aload_n 1, 1) := by decide +kernel
theorem dL_act_185 : decode cL_act 185 = .ok (.getfield 9, 3) := by decide +kernel
theorem dL_act_188 : decode cL_act 188 = .ok (.aload 6, 2) := by decide +kernel
theorem dL_act_190 : decode cL_act 190 = .ok (.invokestatic 24, 3) := by decide +kernel
theorem dL_act_193 : decode cL_act 193 = .ok (.putfield 9, 3) := by decide +kernel
theorem dL_act_196 : decode cL_act 196 = .ok (.aload_n 0, 1) := by decide +kernel
theorem dL_act_197 : decode cL_act 197 = .ok (.aload 6, 2) := by decide +kernel
theorem dL_act_199 : decode cL_act 199 = .ok (.iconst 0, 1) := by decide +kernel
theorem dL_act_200 : decode cL_act 200 = .ok (.iaload, 1) := by decide +kernel
theorem dL_act_201 : decode cL_act 201 = .ok (.aload 6, 2) := by decide +kernel
theorem dL_act_203 : decode cL_act 203 = .ok (.iconst 1, 1) := by decide +kernel
theorem dL_act_204 : decode cL_act 204 = .ok (.iaload, 1) := by decide +kernel
theorem dL_act_205 : decode cL_act 205 = .ok (.aload 6, 2) := by decide +kernel
theorem dL_act_207 : decode cL_act 207 = .ok (.iconst 2, 1) := by decide +kernel
theorem dL_act_208 : decode cL_act 208 = .ok (.iaload, 1) := by decide +kernel
theorem dL_act_209 : decode cL_act 209 = .ok (.aload 6, 2) := by decide +kernel
theorem dL_act_211 : decode cL_act 211 = .ok (.iconst 3, 1) := by decide +kernel
theorem dL_act_212 : decode cL_act 212 = .ok (.iaload, 1) := by decide +kernel
theorem dL_act_213 : decode cL_act 213 = .ok (.invokevirtual 34, 3) := by decide +kernel
theorem dL_act_216 : decode cL_act 216 = .ok (.iload_n 3, 1) := by decide +kernel
theorem dL_act_217 : decode cL_act 217 = .ok (.if_icmp .ne 7, 3) := by decide +kernel
theorem dL_act_220 : decode cL_act 220 = .ok (.iconst 1, 1) := by decide +kernel
theorem dL_act_221 : decode cL_act 221 = .ok (.goto 4, 3) := by decide +kernel
theorem dL_act_224 : decode cL_act 224 = .ok (.iconst 0, 1) := by decide +kernel
theorem dL_act_225 : decode cL_act 225 = .ok (.ireturn, 1) := by decide +kernel
theorem dL_act_226 : decode cL_act 226 = .ok (.iload_n 2, 1) := by decide +kernel
theorem dL_act_227 : decode cL_act 227 = .ok (.iconst 1, 1) := by decide +kernel
theorem dL_act_228 : decode cL_act 228 = .ok (.ishr, 1) := by decide +kernel
theorem dL_act_229 : decode cL_act 229 = .ok (.iload_n 3, 1) := by decide +kernel
theorem dL_act_230 : decode cL_act 230 = .ok (.invokestatic 18, 3) := by decide +kernel
theorem dL_act_233 : decode cL_act 233 = .ok (.istore 6, 2) := by decide +kernel
theorem dL_act_235 : decode cL_act 235 = .ok (.aload_n 1, 1) := by decide +kernel
theorem dL_act_236 : decode cL_act 236 = .ok (.getfield 9, 3) := by decide +kernel
theorem dL_act_239 : decode cL_act 239 = .ok (.iload 6, 2) := by decide +kernel
theorem dL_act_241 : decode cL_act 241 = .ok (.aaload, 1) := by decide +kernel
theorem dL_act_242 : decode cL_act 242 = .ok (.astore 7, 2) := by decide +kernel
theorem dL_act_244 : decode cL_act 244 = .ok (.iload 5, 2) := by decide +kernel
theorem dL_act_246 : decode cL_act 246 = .ok (.tableswitch 180 5 7 #[26, 74, 124], 26) := by decide +kernel
theorem dL_act_272 : decode cL_act 272 = .ok (.aload 7, 2) := by decide +kernel
theorem dL_act_274 : decode cL_act 274 = .ok (.iconst 1, 1) := by decide +kernel
theorem dL_act_275 : decode cL_act 275 = .ok (.iaload, 1) := by decide +kernel
theorem dL_act_276 : decode cL_act 276 = .ok (.istore 8, 2) := by decide +kernel
theorem dL_act_278 : decode cL_act 278 = .ok (.aload 7, 2) := by decide +kernel
theorem dL_act_280 : decode cL_act 280 = .ok (.iconst 4, 1) := by decide +kernel
theorem dL_act_281 : decode cL_act 281 = .ok (.iaload, 1) := by decide +kernel
theorem dL_act_282 : decode cL_act 282 = .ok (.ifCond .eq 5, 3) := by decide +kernel
theorem dL_act_285 : decode cL_act 285 = .ok (.iconst 1, 1) := by decide +kernel
theorem dL_act_286 : decode cL_act 286 = .ok (.ireturn, 1) := by decide +kernel
theorem dL_act_287 : decode cL_act 287 = .ok (.aload 7, 2) := by decide +kernel
theorem dL_act_289 : decode cL_act 289 = .ok (.iconst 1, 1) := by decide +kernel
theorem dL_act_290 : decode cL_act 290 = .ok (.iload_n 2, 1) := by decide +kernel
theorem dL_act_291 : decode cL_act 291 = .ok (.iconst 3, 1) := by decide +kernel
theorem dL_act_292 : decode cL_act 292 = .ok (.ishr, 1) := by decide +kernel
theorem dL_act_293 : decode cL_act 293 = .ok (.bipush 10, 2) := by decide +kernel
theorem dL_act_295 : decode cL_act 295 = .ok (.invokestatic 18, 3) := by decide +kernel
theorem dL_act_298 : decode cL_act 298 = .ok (.iastore, 1) := by decide +kernel
theorem dL_act_299 : decode cL_act 299 = .ok (.aload_n 0, 1) := by decide +kernel
theorem dL_act_300 : decode cL_act 300 = .ok (.iload 6, 2) := by decide +kernel
theorem dL_act_302 : decode cL_act 302 = .ok (.aload 7, 2) := by decide +kernel
theorem dL_act_304 : decode cL_act 304 = .ok (.iconst 1, 1) := by decide +kernel
theorem dL_act_305 : decode cL_act 305 = .ok (.iaload, 1) := by decide +kernel
theorem dL_act_306 : decode cL_act 306 = .ok (.invokevirtual 38, 3) := by decide +kernel
theorem dL_act_309 : decode cL_act 309 = .ok (.iload 8, 2) := by decide +kernel
theorem dL_act_311 : decode cL_act 311 = .ok (.if_icmp .ne 7, 3) := by decide +kernel
theorem dL_act_314 : decode cL_act 314 = .ok (.iconst 1, 1) := by decide +kernel
theorem dL_act_315 : decode cL_act 315 = .ok (.goto 4, 3) := by decide +kernel
theorem dL_act_318 : decode cL_act 318 = .ok (.iconst 0, 1) := by decide +kernel
theorem dL_act_319 : decode cL_act 319 = .ok (.ireturn, 1) := by decide +kernel
theorem dL_act_320 : decode cL_act 320 = .ok (.aload 7, 2) := by decide +kernel
theorem dL_act_322 : decode cL_act 322 = .ok (.iconst 3, 1) := by decide +kernel
theorem dL_act_323 : decode cL_act 323 = .ok (.iaload, 1) := by decide +kernel
theorem dL_act_324 : decode cL_act 324 = .ok (.istore 9, 2) := by decide +kernel
theorem dL_act_326 : decode cL_act 326 = .ok (.aload 7, 2) := by decide +kernel
theorem dL_act_328 : decode cL_act 328 = .ok (.iconst 4, 1) := by decide +kernel
theorem dL_act_329 : decode cL_act 329 = .ok (.iaload, 1) := by decide +kernel
theorem dL_act_330 : decode cL_act 330 = .ok (.ifCond .eq 5, 3) := by decide +kernel
theorem dL_act_333 : decode cL_act 333 = .ok (.iconst 1, 1) := by decide +kernel
theorem dL_act_334 : decode cL_act 334 = .ok (.ireturn, 1) := by decide +kernel
theorem dL_act_335 : decode cL_act 335 = .ok (.aload 7, 2) := by decide +kernel
theorem dL_act_337 : decode cL_act 337 = .ok (.iconst 3, 1) := by decide +kernel
theorem dL_act_338 : decode cL_act 338 = .ok (.iconst 1, 1) := by decide +kernel
theorem dL_act_339 : decode cL_act 339 = .ok (.iload_n 2, 1) := by decide +kernel
theorem dL_act_340 : decode cL_act 340 = .ok (.iconst 3, 1) := by decide +kernel
theorem dL_act_341 : decode cL_act 341 = .ok (.ishr, 1) := by decide +kernel
theorem dL_act_342 : decode cL_act 342 = .ok (.bipush 60, 2) := by decide +kernel
theorem dL_act_344 : decode cL_act 344 = .ok (.invokestatic 18, 3) := by decide +kernel
theorem dL_act_347 : decode cL_act 347 = .ok (.iadd, 1) := by decide +kernel
theorem dL_act_348 : decode cL_act 348 = .ok (.iastore, 1) := by decide +kernel
theorem dL_act_349 : decode cL_act 349 = .ok (.aload_n 0, 1) := by decide +kernel
theorem dL_act_350 : decode cL_act 350 = .ok (.iload 6, 2) := by decide +kernel
theorem dL_act_352 : decode cL_act 352 = .ok (.aload 7, 2) := by decide +kernel
theorem dL_act_354 : decode cL_act 354 = .ok (.iconst 3, 1) := by decide +kernel
theorem dL_act_355 : decode cL_act 355 = .ok (.iaload, 1) := by decide +kernel
theorem dL_act_356 : decode cL_act 356 = .ok (.invokevirtual 41, 3) := by decide +kernel
theorem dL_act_359 : decode cL_act 359 = .ok (.iload 9, 2) := by decide +kernel
theorem dL_act_361 : decode cL_act 361 = .ok (.if_icmp .ne 7, 3) := by decide +kernel
theorem dL_act_364 : decode cL_act 364 = .ok (.iconst 1, 1) := by decide +kernel
theorem dL_act_365 : decode cL_act 365 = .ok (.goto 4, 3) := by decide +kernel
theorem dL_act_368 : decode cL_act 368 = .ok (.iconst 0, 1) := by decide +kernel
theorem dL_act_369 : decode cL_act 369 = .ok (.ireturn, 1) := by decide +kernel
theorem dL_act_370 : decode cL_act 370 = .ok (.iload 4, 2) := by decide +kernel
theorem dL_act_372 : decode cL_act 372 = .ok (.ifCond .ne 5, 3) := by decide +kernel
theorem dL_act_375 : decode cL_act 375 = .ok (.iconst 1, 1) := by decide +kernel
theorem dL_act_376 : decode cL_act 376 = .ok (.ireturn, 1) := by decide +kernel
theorem dL_act_377 : decode cL_act 377 = .ok (.iload_n 2, 1) := by decide +kernel
theorem dL_act_378 : decode cL_act 378 = .ok (.iconst 3, 1) := by decide +kernel
theorem dL_act_379 : decode cL_act 379 = .ok (.ishr, 1) := by decide +kernel
theorem dL_act_380 : decode cL_act 380 = .ok (.iload 4, 2) := by decide +kernel
theorem dL_act_382 : decode cL_act 382 = .ok (.invokestatic 18, 3) := by decide +kernel
theorem dL_act_385 : decode cL_act 385 = .ok (.istore 10, 2) := by decide +kernel
theorem dL_act_387 : decode cL_act 387 = .ok (.aload_n 1, 1) := by decide +kernel
theorem dL_act_388 : decode cL_act 388 = .ok (.getfield 15, 3) := by decide +kernel
theorem dL_act_391 : decode cL_act 391 = .ok (.iload 10, 2) := by decide +kernel
theorem dL_act_393 : decode cL_act 393 = .ok (.aaload, 1) := by decide +kernel
theorem dL_act_394 : decode cL_act 394 = .ok (.iconst 0, 1) := by decide +kernel
theorem dL_act_395 : decode cL_act 395 = .ok (.iaload, 1) := by decide +kernel
theorem dL_act_396 : decode cL_act 396 = .ok (.istore 11, 2) := by decide +kernel
theorem dL_act_398 : decode cL_act 398 = .ok (.aload_n 1, 1) := by decide +kernel
theorem dL_act_399 : decode cL_act 399 = .ok (.getfield 15, 3) := by decide +kernel
theorem dL_act_402 : decode cL_act 402 = .ok (.iload 10, 2) := by decide +kernel
theorem dL_act_404 : decode cL_act 404 = .ok (.aaload, 1) := by decide +kernel
theorem dL_act_405 : decode cL_act 405 = .ok (.iconst 0, 1) := by decide +kernel
theorem dL_act_406 : decode cL_act 406 = .ok (.bipush 9, 2) := by decide +kernel
theorem dL_act_408 : decode cL_act 408 = .ok (.iastore, 1) := by decide +kernel
theorem dL_act_409 : decode cL_act 409 = .ok (.aload_n 0, 1) := by decide +kernel
theorem dL_act_410 : decode cL_act 410 = .ok (.iload 10, 2) := by decide +kernel
theorem dL_act_412 : decode cL_act 412 = .ok (.invokevirtual 44, 3) := by decide +kernel
theorem dL_act_415 : decode cL_act 415 = .ok (.iload 11, 2) := by decide +kernel
theorem dL_act_417 : decode cL_act 417 = .ok (.if_icmp .ne 7, 3) := by decide +kernel
theorem dL_act_420 : decode cL_act 420 = .ok (.iconst 1, 1) := by decide +kernel
theorem dL_act_421 : decode cL_act 421 = .ok (.goto 4, 3) := by decide +kernel
theorem dL_act_424 : decode cL_act 424 = .ok (.iconst 0, 1) := by decide +kernel
theorem dL_act_425 : decode cL_act 425 = .ok (.ireturn, 1) := by decide +kernel
theorem dL_act_426 : decode cL_act 426 = .ok (.iconst 1, 1) := by decide +kernel
theorem dL_act_427 : decode cL_act 427 = .ok (.iload_n 2, 1) := by decide +kernel
theorem dL_act_428 : decode cL_act 428 = .ok (.iconst 2, 1) := by decide +kernel
theorem dL_act_429 : decode cL_act 429 = .ok (.ishr, 1) := by decide +kernel
theorem dL_act_430 : decode cL_act 430 = .ok (.iload_n 2, 1) := by decide +kernel
theorem dL_act_431 : decode cL_act 431 = .ok (.bipush 8, 2) := by decide +kernel
theorem dL_act_433 : decode cL_act 433 = .ok (.invokestatic 18, 3) := by decide +kernel
theorem dL_act_436 : decode cL_act 436 = .ok (.ifCond .ne 8, 3) := by decide +kernel
theorem dL_act_439 : decode cL_act 439 = .ok (.bipush 60, 2) := by decide +kernel
theorem dL_act_441 : decode cL_act 441 = .ok (.goto 4, 3) := by decide +kernel
theorem dL_act_444 : decode cL_act 444 = .ok (.iconst 3, 1) := by decide +kernel
theorem dL_act_445 : decode cL_act 445 = .ok (.invokestatic 18, 3) := by decide +kernel
theorem dL_act_448 : decode cL_act 448 = .ok (.iadd, 1) := by decide +kernel
theorem dL_act_449 : decode cL_act 449 = .ok (.istore 12, 2) := by decide +kernel
theorem dL_act_451 : decode cL_act 451 = .ok (.aload_n 0, 1) := by decide +kernel
theorem dL_act_452 : decode cL_act 452 = .ok (.iload 12, 2) := by decide +kernel
theorem dL_act_454 : decode cL_act 454 = .ok (.invokevirtual 48, 3) := by decide +kernel
theorem dL_act_457 : decode cL_act 457 = .ok (.aload_n 1, 1) := by decide +kernel
theorem dL_act_458 : decode cL_act 458 = .ok (.iload 12, 2) := by decide +kernel
theorem dL_act_460 : decode cL_act 460 = .ok (.invokevirtual 51, 3) := by decide +kernel
theorem dL_act_463 : decode cL_act 463 = .ok (.if_icmp .ne 7, 3) := by decide +kernel
theorem dL_act_466 : decode cL_act 466 = .ok (.iconst 1, 1) := by decide +kernel
theorem dL_act_467 : decode cL_act 467 = .ok (.goto 4, 3) := by decide +kernel
theorem dL_act_470 : decode cL_act 470 = .ok (.iconst 0, 1) := by decide +kernel
theorem dL_act_471 : decode cL_act 471 = .ok (.ireturn, 1) := by decide +kernel
set_option maxRecDepth 20000 in
theorem ggL_build_X2_init : GoodIn wsL_build wsX2_init := goodIn_r _ [7, 8, 9, 10, 11, 12, 13, 200, 201, 202, 203, 204] (by decide +kernel) (by decide +kernel)
set_option maxRecDepth 20000 in
theorem gL_build_X2_init_n54 : GoodIn wsL_build (wsX2_init) := ggL_build_X2_init
set_option maxRecDepth 20000 in
theorem ggL_build_L_cell : GoodIn wsL_build wsL_cell := goodIn_r _ [17, 18] (by decide +kernel) (by decide +kernel)
set_option maxRecDepth 20000 in
theorem gL_build_L_cell : GoodIn wsL_build (va_wsS RL 55 yL_cell wsL_cell) := goodIn_app (goodIn_of _ (by decide +kernel)) ggL_build_L_cell
set_option maxRecDepth 20000 in
theorem ggL_build_L_below : GoodIn wsL_build wsL_below := goodIn_r _ [21, 22] (by decide +kernel) (by decide +kernel)
set_option maxRecDepth 20000 in
theorem gL_build_L_below : GoodIn wsL_build (va_wsS RL 18 yL_below wsL_below) := goodIn_app (goodIn_of _ (by decide +kernel)) ggL_build_L_below
set_option maxRecDepth 20000 in
theorem ggL_build_X2_with : GoodIn wsL_build wsX2_with := goodIn_r _ [25, 11] (by decide +kernel) (by decide +kernel)
set_option maxRecDepth 20000 in
theorem gL_build_X2_with : GoodIn wsL_build (va_wsS RL 24 yX2_with wsX2_with) := goodIn_app (goodIn_of _ (by decide +kernel)) ggL_build_X2_with
set_option maxRecDepth 20000 in
theorem ggL_build_X1_addGuard : GoodIn wsL_build wsX1_addGuard := goodIn_ca (goodIn_r _ [30, 31, 32, 33, 34, 35, 36, 37, 38, 39, 40, 41, 42, 43, 205, 206, 207, 208, 209, 210, 211, 212, 213, 214, 215, 216, 217, 218, 219, 220, 221] (by decide +kernel) (by decide +kernel)) (goodIn_sub (fun _ h => List.mem_cons_of_mem _ (List.mem_append_left _ (List.mem_append_left _ (List.mem_append_right _ h)))) (by decide +kernel))
set_option maxRecDepth 20000 in
theorem gL_build_X1_addGuard : GoodIn wsL_build (wsV RL 28 RX1 yX1_addGuard wsX1_addGuard) := goodIn_app (goodIn_of _ (by decide +kernel)) ggL_build_X1_addGuard
set_option maxRecDepth 20000 in
theorem ggL_build_L_act : GoodIn wsL_build wsL_act := goodIn_ca (goodIn_ca (goodIn_ca (goodIn_r _ [46, 47, 4, 5, 19, 20, 16, 21, 22, 23, 24, 3, 25, 11, 26, 27, 28, 29, 30, 31, 32, 33, 34, 35, 36, 37, 38, 39, 40, 41, 42, 43, 48, 49, 50, 51, 52, 53, 54, 55, 56, 57, 58, 59, 60, 61, 62, 63, 64, 65, 66, 67, 68, 69, 70, 71, 72, 73, 74, 75, 76, 77, 78, 79, 80, 81, 82, 83, 84, 85, 86, 87, 88, 89, 90, 91, 92, 93, 94, 95, 96, 97, 98, 99, 100, 101, 102, 103, 104, 105, 106, 107, 108, 109, 110, 111, 112, 113, 114, 115, 116, 117, 118, 119, 120, 121, 122, 123, 124, 125, 126, 127, 128, 129, 130, 131, 132, 133, 134, 135, 136, 137, 138, 139, 140, 141, 142, 143, 144, 145, 146, 147, 148, 149, 150, 151, 152, 153, 154, 155, 156, 157, 158, 159, 160, 161, 162, 163, 164, 165, 166, 167, 168, 169, 170, 171, 172, 173, 174, 175, 176, 177, 13, 178, 179, 180, 181, 12, 182, 183, 184, 185, 186, 187, 188, 189, 190, 191, 192, 193, 194, 195, 196, 197, 198, 199, 200, 201, 202, 203, 204, 205, 206, 207, 208, 209, 210, 211, 212, 213, 214, 215, 216, 217, 218, 219, 220, 221] (by decide +kernel) (by decide +kernel)) (goodIn_sub (fun _ h => List.mem_cons_of_mem _ (List.mem_append_left _ (List.mem_append_left _ (List.mem_append_right _ h)))) (by decide +kernel))) (goodIn_sub (fun _ h => List.mem_cons_of_mem _ (List.mem_append_left _ (List.mem_append_right _ h))) (by decide +kernel))) (goodIn_sub (fun _ h => List.mem_cons_of_mem _ (List.mem_append_right _ h)) (by decide +kernel))
set_option maxRecDepth 20000 in
theorem gL_build_L_act : GoodIn wsL_build (va_wsS RL 59 yL_act wsL_act) := goodIn_app (goodIn_of _ (by decide +kernel)) ggL_build_L_act
theorem dL_build_0 : decode cL_build 0 = .ok (.new 10, 3) := by decide +kernel
theorem dL_build_3 : decode cL_build 3 = .ok (.dup, 1) := by decide +kernel
theorem dL_build_4 : decode cL_build 4 = .ok (.invokespecial 54, 3) := by decide +kernel
theorem dL_build_7 : decode cL_build 7 = .ok (.astore_n 2, 1) := by decide +kernel
theorem dL_build_8 : decode cL_build 8 = .ok (.aload_n 1, 1) := by decide +kernel
theorem dL_build_9 : decode cL_build 9 = .ok (.iconst 1, 1) := by decide +kernel
theorem dL_build_10 : decode cL_build 10 = .ok (.invokestatic 55, 3) := by decide +kernel
theorem dL_build_13 : decode cL_build 13 = .ok (.iconst 4, 1) := by decide +kernel
theorem dL_build_14 : decode cL_build 14 = .ok (.invokestatic 18, 3) := by decide +kernel
theorem dL_build_17 : decode cL_build 17 = .ok (.istore_n 3, 1) := by decide +kernel
theorem dL_build_18 : decode cL_build 18 = .ok (.iconst 0, 1) := by decide +kernel
theorem dL_build_19 : decode cL_build 19 = .ok (.istore 4, 2) := by decide +kernel
theorem dL_build_21 : decode cL_build 21 = .ok (.iload 4, 2) := by decide +kernel
theorem dL_build_23 : decode cL_build 23 = .ok (.iload_n 3, 1) := by decide +kernel
theorem dL_build_24 : decode cL_build 24 = .ok (.if_icmp .ge 47, 3) := by decide +kernel
theorem dL_build_27 : decode cL_build 27 = .ok (.aload_n 2, 1) := by decide +kernel
theorem dL_build_28 : decode cL_build 28 = .ok (.aload_n 2, 1) := by decide +kernel
theorem dL_build_29 : decode cL_build 29 = .ok (.getfield 15, 3) := by decide +kernel
theorem dL_build_32 : decode cL_build 32 = .ok (.iconst 3, 1) := by decide +kernel
theorem dL_build_33 : decode cL_build 33 = .ok (.newarray .int, 2) := by decide +kernel
theorem dL_build_35 : decode cL_build 35 = .ok (.dup, 1) := by decide +kernel
theorem dL_build_36 : decode cL_build 36 = .ok (.iconst 0, 1) := by decide +kernel
theorem dL_build_37 : decode cL_build 37 = .ok (.bipush 9, 2) := by decide +kernel
theorem dL_build_39 : decode cL_build 39 = .ok (.iastore, 1) := by decide +kernel
theorem dL_build_40 : decode cL_build 40 = .ok (.dup, 1) := by decide +kernel
theorem dL_build_41 : decode cL_build 41 = .ok (.iconst 1, 1) := by decide +kernel
theorem dL_build_42 : decode cL_build 42 = .ok (.iconst (-1), 1) := by decide +kernel
theorem dL_build_43 : decode cL_build 43 = .ok (.iastore, 1) := by decide +kernel
theorem dL_build_44 : decode cL_build 44 = .ok (.dup, 1) := by decide +kernel
theorem dL_build_45 : decode cL_build 45 = .ok (.iconst 2, 1) := by decide +kernel
theorem dL_build_46 : decode cL_build 46 = .ok (.iconst 0, 1) := by decide +kernel
theorem dL_build_47 : decode cL_build 47 = .ok (.iastore, 1) := by decide +kernel
theorem dL_build_48 : decode cL_build 48 = .ok (.invokestatic 24, 3) := by decide +kernel
theorem dL_build_51 : decode cL_build 51 = .ok (.putfield 15, 3) := by decide +kernel
theorem dL_build_54 : decode cL_build 54 = .ok (.aload_n 0, 1) := by decide +kernel
theorem dL_build_55 : decode cL_build 55 = .ok (.invokevirtual 28, 3) := by decide +kernel
theorem dL_build_58 : decode cL_build 58 = .ok (.iload 4, 2) := by decide +kernel
theorem dL_build_60 : decode cL_build 60 = .ok (.if_icmp .eq 5, 3) := by decide +kernel
theorem dL_build_63 : decode cL_build 63 = .ok (.aconst_null, 1) := by decide +kernel
theorem dL_build_64 : decode cL_build 64 = .ok (.areturn, 1) := by decide +kernel
theorem dL_build_65 : decode cL_build 65 = .ok (.iinc 4 1, 3) := by decide +kernel
theorem dL_build_68 : decode cL_build 68 = .ok (.goto (-47), 3) := by decide +kernel
theorem dL_build_71 : decode cL_build 71 = .ok (.bipush 8, 2) := by decide +kernel
theorem dL_build_73 : decode cL_build 73 = .ok (.aload_n 1, 1) := by decide +kernel
theorem dL_build_74 : decode cL_build 74 = .ok (.iconst 0, 1) := by decide +kernel
theorem dL_build_75 : decode cL_build 75 = .ok (.invokestatic 55, 3) := by decide +kernel
theorem dL_build_78 : decode cL_build 78 = .ok (.bipush 44, 2) := by decide +kernel
theorem dL_build_80 : decode cL_build 80 = .ok (.invokestatic 18, 3) := by decide +kernel
theorem dL_build_83 : decode cL_build 83 = .ok (.iadd, 1) := by decide +kernel
theorem dL_build_84 : decode cL_build 84 = .ok (.istore 4, 2) := by decide +kernel
theorem dL_build_86 : decode cL_build 86 = .ok (.iconst 0, 1) := by decide +kernel
theorem dL_build_87 : decode cL_build 87 = .ok (.istore 5, 2) := by decide +kernel
theorem dL_build_89 : decode cL_build 89 = .ok (.iload 5, 2) := by decide +kernel
theorem dL_build_91 : decode cL_build 91 = .ok (.iload 4, 2) := by decide +kernel
theorem dL_build_93 : decode cL_build 93 = .ok (.if_icmp .ge 43, 3) := by decide +kernel
theorem dL_build_96 : decode cL_build 96 = .ok (.aload_n 0, 1) := by decide +kernel
theorem dL_build_97 : decode cL_build 97 = .ok (.aload_n 2, 1) := by decide +kernel
theorem dL_build_98 : decode cL_build 98 = .ok (.aload_n 1, 1) := by decide +kernel
theorem dL_build_99 : decode cL_build 99 = .ok (.iload 5, 2) := by decide +kernel
theorem dL_build_101 : decode cL_build 101 = .ok (.bipush 16, 2) := by decide +kernel
theorem dL_build_103 : decode cL_build 103 = .ok (.irem, 1) := by decide +kernel
theorem dL_build_104 : decode cL_build 104 = .ok (.invokestatic 55, 3) := by decide +kernel
theorem dL_build_107 : decode cL_build 107 = .ok (.iload 5, 2) := by decide +kernel
theorem dL_build_109 : decode cL_build 109 = .ok (.bipush 16, 2) := by decide +kernel
theorem dL_build_111 : decode cL_build 111 = .ok (.idiv, 1) := by decide +kernel
theorem dL_build_112 : decode cL_build 112 = .ok (.iconst 3, 1) := by decide +kernel
theorem dL_build_113 : decode cL_build 113 = .ok (.imul, 1) := by decide +kernel
theorem dL_build_114 : decode cL_build 114 = .ok (.ishr, 1) := by decide +kernel
theorem dL_build_115 : decode cL_build 115 = .ok (.sipush 653, 3) := by decide +kernel
theorem dL_build_118 : decode cL_build 118 = .ok (.iload 5, 2) := by decide +kernel
theorem dL_build_120 : decode cL_build 120 = .ok (.imul, 1) := by decide +kernel
theorem dL_build_121 : decode cL_build 121 = .ok (.iadd, 1) := by decide +kernel
theorem dL_build_122 : decode cL_build 122 = .ok (.invokestatic 59, 3) := by decide +kernel
theorem dL_build_125 : decode cL_build 125 = .ok (.ifCond .ne 5, 3) := by decide +kernel
theorem dL_build_128 : decode cL_build 128 = .ok (.aconst_null, 1) := by decide +kernel
theorem dL_build_129 : decode cL_build 129 = .ok (.areturn, 1) := by decide +kernel
theorem dL_build_130 : decode cL_build 130 = .ok (.iinc 5 1, 3) := by decide +kernel
theorem dL_build_133 : decode cL_build 133 = .ok (.goto (-44), 3) := by decide +kernel
theorem dL_build_136 : decode cL_build 136 = .ok (.aload_n 2, 1) := by decide +kernel
theorem dL_build_137 : decode cL_build 137 = .ok (.areturn, 1) := by decide +kernel
end
section
/-! BASE: closed judgements over moving worlds (Gq: at an instruction; Gx: with an exception over it), contracts (Ct), a row an instruction. -/
theorem vpm {D : va_G} {cl : List vw_C} {ws : va_W} {H : Heap} : va_P D cl ws H ↔ ∀ q ∈ ws, va_at D cl q H := by
  constructor
  · intro h q hq
    obtain ⟨k, hk⟩ := List.getElem?_of_mem hq
    exact h k q hk
  · intro h k q hk
    exact h q (List.mem_of_getElem? hk)
theorem vdm {A : Nat → Prop} {ws : va_W} : va_D A ws ↔ (ws.map (fun q => q.1)).Nodup ∧ ∀ q ∈ ws, A q.1 := by
  constructor
  · intro h
    refine ⟨?_, fun q hq => ?_⟩
    · rw [List.Nodup, List.pairwise_iff_getElem]
      intro i j hi hj hij he
      rw [List.getElem_map, List.getElem_map] at he
      have hi' : i < ws.length := by simpa using hi
      have hj' : j < ws.length := by simpa using hj
      have := h.1 i j _ _ (List.getElem?_eq_getElem hi') (List.getElem?_eq_getElem hj') he
      omega
    · obtain ⟨k, hk⟩ := List.getElem?_of_mem hq
      exact h.2 k q hk
  · intro h
    refine ⟨fun i j p q hi hj he => ?_, fun k q hk => h.2 q (List.mem_of_getElem? hk)⟩
    obtain ⟨hi1, hi2⟩ := List.getElem?_eq_some_iff.mp hi
    obtain ⟨hj1, hj2⟩ := List.getElem?_eq_some_iff.mp hj
    have hn := h.1
    rw [List.Nodup, List.pairwise_iff_getElem] at hn
    rcases Nat.lt_trichotomy i j with g | g | g
    · exact absurd (by rw [List.getElem_map, List.getElem_map, hi2, hj2]; exact he) (hn i j (by simpa using hi1) (by simpa using hj1) g)
    · exact g
    · exact absurd (by rw [List.getElem_map, List.getElem_map, hi2, hj2]; exact he.symm) (hn j i (by simpa using hj1) (by simpa using hi1) g)
theorem vp_app {D : va_G} {cl : List vw_C} {a b : va_W} {H : Heap} : va_P D cl (a ++ b) H ↔ va_P D cl a H ∧ va_P D cl b H := by
  simp only [vpm, List.mem_append]
  exact ⟨fun h => ⟨fun q hq => h q (Or.inl hq), fun q hq => h q (Or.inr hq)⟩, fun h q hq => hq.elim (h.1 q) (h.2 q)⟩
theorem vd_app {A : Nat → Prop} {a b : va_W} : va_D A (a ++ b) ↔ va_D A a ∧ va_D A b ∧ ∀ p ∈ a, ∀ q ∈ b, p.1 ≠ q.1 := by
  simp only [vdm, List.map_append, List.nodup_append, List.mem_append, List.mem_map]
  constructor
  · rintro ⟨⟨h1, h2, h3⟩, h4⟩
    exact ⟨⟨h1, fun q hq => h4 q (Or.inl hq)⟩, ⟨h2, fun q hq => h4 q (Or.inr hq)⟩, fun p hp q hq => h3 _ ⟨p, hp, rfl⟩ _ ⟨q, hq, rfl⟩⟩
  · rintro ⟨⟨h1, h2⟩, ⟨h3, h4⟩, h5⟩
    refine ⟨⟨h1, h3, ?_⟩, fun q hq => hq.elim (h2 q) (h4 q)⟩
    rintro x ⟨p, hp, rfl⟩ y ⟨q, hq, rfl⟩
    exact h5 p hp q hq
theorem va_Am {ws : va_W} {sz q : Nat} : va_A ws sz q ↔ (∃ e ∈ ws, e.1 = q) ∨ sz ≤ q := by
  constructor
  · rintro (⟨k, e, h⟩ | h)
    · exact Or.inl ⟨_, List.mem_of_getElem? h, rfl⟩
    · exact Or.inr h
  · rintro (⟨e, h, rfl⟩ | h)
    · obtain ⟨k, hk⟩ := List.getElem?_of_mem h
      exact Or.inl ⟨k, e.2, hk⟩
    · exact Or.inr h
/-- behind a call: the callee's cells stand between the caller's others -/
theorem jn {A : Nat → Prop} {D : va_G} {cl : List vw_C} {wl wc wr w1 : va_W} {H H1 : Heap} (hP : va_P D cl (wl ++ (wc ++ wr)) H) (hD : va_D A (wl ++ (wc ++ wr)))
    (hk : ∀ q : Nat, q < H.size → ¬ va_A wc H.size q → H1[q]? = H[q]?) (hF : ∀ q, va_A wc H.size q → A q) (hP1 : va_P D cl w1 H1) (hD1 : va_D (va_A wc H.size) w1) : va_P D cl (wl ++ (w1 ++ wr)) H1 ∧ va_D A (wl ++ (w1 ++ wr)) := by
  obtain ⟨pl, pcr⟩ := vp_app.mp hP
  obtain ⟨pc, pr⟩ := vp_app.mp pcr
  obtain ⟨dl, dcr, dx⟩ := vd_app.mp hD
  obtain ⟨dc, dr, dy⟩ := vd_app.mp dcr
  have lt : ∀ {w : va_W}, va_P D cl w H → ∀ q ∈ w, q.1 < H.size := fun h q hq => (vpm.mp h q hq).lt
  have nl : ∀ q ∈ wl, ¬ va_A wc H.size q.1 := by
    intro q hq h
    rcases va_Am.mp h with ⟨e, he, h1⟩ | h
    · exact dx q hq e (List.mem_append_left _ he) h1.symm
    · exact absurd (lt pl q hq) (by omega)
  have nr : ∀ q ∈ wr, ¬ va_A wc H.size q.1 := by
    intro q hq h
    rcases va_Am.mp h with ⟨e, he, h1⟩ | h
    · exact dy e he q hq h1
    · exact absurd (lt pr q hq) (by omega)
  have kp : ∀ {w : va_W}, va_P D cl w H → (∀ q ∈ w, ¬ va_A wc H.size q.1) → va_P D cl w H1 := by
    intro w h hn
    rw [vpm] at h ⊢
    intro q hq
    exact (h q hq).kept (hk q.1 (h q hq).lt (hn q hq))
  have in1 : ∀ q ∈ w1, va_A wc H.size q.1 := (vdm.mp hD1).2
  refine ⟨vp_app.mpr ⟨kp pl nl, vp_app.mpr ⟨hP1, kp pr nr⟩⟩, vd_app.mpr ⟨dl, vd_app.mpr ⟨vdm.mpr ⟨(vdm.mp hD1).1, fun q hq => hF _ (in1 q hq)⟩, dr, ?_⟩, ?_⟩⟩
  · intro p hp q hq he
    exact nr q hq (by rw [← he]; exact in1 p hp)
  · intro p hp q hq he
    rcases List.mem_append.mp hq with h | h
    · exact nl p hp (by rw [he]; exact in1 q h)
    · exact dx p hp q (List.mem_append_right _ h) he
/-- the exceptions that the class throws, by a number -/
def xn (n : Nat) : String := match n with
  | 1 => "java/lang/IllegalStateException"
  | 2 => "java/lang/IllegalArgumentException"
  | _ => "java/lang/IndexOutOfBoundsException"
/-- what of the tables doesn't keep by itself, and what a throw needs of the heap -/
def ev_w : List Cond := [.castable (xn 1) (xn 1), .castable (xn 2) (xn 2), .castable (xn 3) (xn 3), .methodLinkNest RX1 9 yX0_init RX1, .declares (Bundle.initS "java/lang/RuntimeException"), .declares (Bundle.initS "java/lang/Exception"), .declares (Bundle.initS Bundle.tN)]
def ev_n : List (String × String) := [(xn 1, xn 2), (xn 1, xn 3), (xn 2, xn 1), (xn 2, xn 3), (xn 3, xn 1), (xn 3, xn 2)]
/-- the texts that the class throws; the script's place, length and numbers -/
abbrev Ev : Type := List (String × Nat × String) × (Nat × Nat × (Nat → Int32))
/-- rows of rows have been made before -/
def AOA (U : State) : Prop := (Cond.arrayOver (.array .int)).before #[] U = true
theorem AOA.moved {u U : State} (hvm : u.vm.Alike U.vm) (h : AOA u) : AOA U := by
  obtain ⟨comp, c, k, h1, h2, h3, h4, h5⟩ := arrayOverA_spec h
  obtain ⟨k', hk', he⟩ := hvm.2.2 _ _ h3
  have hi : (U.vm.classes.findIdx? fun (x : Class) => match x.kind with | .array component _ => component == comp | _ => false) = some c := by
    rw [hvm.findIdx?_eq _ (fun _ => rfl)]
    exact h2
  have hkind : k'.kind = .array comp (.array .int) := by rw [he]; exact h4
  have f1 : U.vm.findClass (FieldType.array .int).toString = some comp := by rw [hvm.findClass]; exact h1
  have f2 : U.vm.findClass ("[" ++ (FieldType.array .int).toString) = some c := by rw [hvm.findClass]; exact h5
  unfold AOA Cond.before Cond.holds
  simp only [Cond.value]
  rw [f1, Option.bind_some]
  refine (congrArg (fun o : Option Nat => (o.bind (fun c => (U.vm.classes[c]?).map fun (k : Class) => match k.kind with | .array _ ty => decide (ty = FieldType.array .int) && decide (U.vm.findClass ("[" ++ (FieldType.array .int).toString) = some c) | _ => false) == some true)) hi).trans ?_
  simp [hk', hkind, f2]
/-- the script stands where it stood, and isn't ours -/
def Scr (x : Nat × Nat × (Nat → Int32)) (A : Nat → Prop) (U : State) : Prop := va_X x.1 x.2.1 x.2.2 U U.heap ∧ x.1 < U.heap.size ∧ ¬ A x.1
def Env9 (ss : Ev) (A : Nat → Prop) (U : State) : Prop :=
  vx_Zq Bundle.tN "UNASSIGNED_STACK" Bundle.steD A U U.heap ∧ vx_Zq Bundle.tN "SUPPRESSED_SENTINEL" Bundle.listD A U U.heap ∧ (∀ w ∈ ev_w, va_Nw w U) ∧ (∀ q ∈ ss.1, ∃ a, vk_R q.1 q.2.1 q.2.2 a U) ∧ (∀ q ∈ ev_n, va_Nc q.1 q.2 U) ∧ AOA U ∧ Scr ss.2 A U
theorem ev_on : ∀ w ∈ ev_w, w.onTables = true := by decide +kernel
theorem Env9.same {ss : Ev} {A : Nat → Prop} {u U : State} (hv : u.vm = U.vm) (hh : u.heap = U.heap) (h : Env9 ss A u) : Env9 ss A U := by
  obtain ⟨h1, h2, h3, h4, h5, h6, ⟨scr, x1, x2, x3⟩, x4, x5⟩ := h
  have al : u.vm.Alike U.vm := by rw [hv]; exact Vm.Alike.refl _
  refine ⟨by rw [← hh]; exact h1.moved al, by rw [← hh]; exact h2.moved al, fun w hw => (h3 w hw).same (ev_on w hw) hv, fun q hq => ?_, fun q hq => (h5 q hq).moved al, h6.moved al, ⟨scr, by rw [← hh]; exact x1, State.isArrayOf_alike al x2, x3⟩, by rw [← hh]; exact x4, x5⟩
  obtain ⟨a, ha⟩ := h4 q hq
  exact ⟨a, vk_R.same hv.symm ha⟩
theorem ev_warm {s U : State} (hW : s.WarmedH U.vm) : ∀ w ∈ ev_w, va_Nw w s → va_Nw w U := by
  intro w hw
  simp only [ev_w, List.mem_cons, List.not_mem_nil, or_false] at hw
  rcases hw with rfl | rfl | rfl | rfl | rfl | rfl | rfl
  · exact va_Nw.warmC hW
  · exact va_Nw.warmC hW
  · exact va_Nw.warmC hW
  · exact va_Nw.warmM hW
  · exact va_Nw.warmD hW
  · exact va_Nw.warmD hW
  · exact va_Nw.warmD hW
theorem Env9.call {ss : Ev} {A B : Nat → Prop} {s U : State} {H : Heap} {locs : List Loc} (h : Env9 ss A s) (hS : va_S A s.heap H locs) (hU : U.heap = H) (hW : s.WarmedH U.vm) (hF : ∀ q, B q → A q) : Env9 ss B U := by
  obtain ⟨h1, h2, h3, h4, h5, h6, ⟨scr, x1, x2, x3⟩, x4, x5⟩ := h
  refine ⟨?_, ?_, fun w hw => ev_warm hW w hw (h3 w hw), fun q hq => ?_, fun q hq => (h5 q hq).moved hW.alike, h6.moved hW.alike, ⟨scr, ?_, State.isArrayOf_alike hW.alike x2, x3⟩, ?_, fun q => x5 (hF _ q)⟩
  · rw [hU]
    exact ((h1.kept (fun a ha hn => hS.2.1 a ha hn)).narrow hF).moved hW.alike
  · rw [hU]
    exact ((h2.kept (fun a ha hn => hS.2.1 a ha hn)).narrow hF).moved hW.alike
  · obtain ⟨a, ha⟩ := h4 q hq
    exact ⟨a, vk_R.warm hW ha⟩
  · rw [hU, hS.2.1 _ x4 x5]
    exact x1
  · rw [hU]
    exact Nat.lt_of_lt_of_le x4 hS.1
/-- what a call may come to: an exception by its number, or an answer and a world -/
abbrev Oc : Type := Nat ⊕ (Option Value × va_W)
def CtR (D : va_G) (Rr : Oc → Prop) (A : Nat → Prop) : Array Value → State → Outcome → State → Prop := fun _ st oc t => (∃ rv W1, Rr (.inr (rv, W1)) ∧ oc = .returned rv ∧ va_P D vwCl W1 t.heap ∧ va_D A W1) ∧ va_F A st t
def CtX (D : va_G) (W0 : va_W) (Rr : Oc → Prop) (A : Nat → Prop) : String → State → State → Prop := fun E st t => (∃ n, Rr (.inl n) ∧ E = xn n ∧ va_P D vwCl W0 t.heap ∧ va_D A W0) ∧ va_F A st t
def CtP (ss : Ev) (D : va_G) (tys : List (ClassId × FieldType)) (W0 : va_W) (sz : Nat) (U : State) : Prop := U.heap.size = sz ∧ va_P D vwCl W0 U.heap ∧ va_K D vwCl tys U ∧ va_D (fun _ => True) W0 ∧ Env9 ss (va_A W0 sz) U
/-- a method's contract: from the world W0 it comes to an outcome of which Rr holds -/
def Ct (ss : Ev) (l : Launch) (y : MethodName) (ws : List Cond) (rm : Room) (D : va_G) (tys : List (ClassId × FieldType)) (As : List Value) (W0 : va_W) (Rr : Oc → Prop) (mc ms : Nat) : Prop :=
  ∀ sz, vx_Met l y ws rm (va_Pc As (CtP ss D tys W0 sz)) (CtR D Rr (va_A W0 sz)) (CtX D W0 Rr (va_A W0 sz)) mc ms (va_A W0 sz)
/-- a method's plain facts, for its callers -/
def CF (y : MethodName) (ws : List Cond) (rm : Room) (bytes : ByteArray) (maxL : Nat) (ret : Option FieldType) (n mc ms : Nat) (Cn : String) : Prop :=
  (∃ ws', ws = Cond.code y bytes maxL ret :: ws') ∧ rm.cells = mc ∧ rm.slots = ms ∧ y.cls = Cn ∧ y.cls ≠ "java/lang/invoke/MethodHandle" ∧ y.cls ≠ "java/lang/invoke/VarHandle" ∧ (parseMethodDescriptor y.desc).map (fun d => d.parameters.length) = some n
section GB
variable {ss : Ev} {p : Program} {l : Launch} {e : Env} {R : Room} {s : State} {m : MethodId} {args : Array Value} {below : List Frame} {meth : Method} {c : Code} {Q : State → Prop}
variable {D : va_G} {A : Nat → Prop} {tys : List (ClassId × FieldType)} {Ts : List Cond} {own : String} {cc : ByteArray} {nL : Nat} {tb : List ExceptionTableEntry} {ws ws' : va_W} {cells slots pc q : Nat} {lv lv' : List (Nat × Value)} {st : List Value}
/-- at an instruction, the world and the known locals -/
def Gq (p : Program) (l : Launch) (e : Env) (R : Room) (s : State) (m : MethodId) (args : Array Value) (below : List Frame) (meth : Method) (c : Code) (D : va_G) (A : Nat → Prop) (nL : Nat) (Q : State → Prop) (ws : va_W) (cells slots pc : Nat) (lv : List (Nat × Value)) (st : List Value) : Prop :=
  ∀ (H : Heap) (locs : List Loc) (ls : Array Slot), va_P D vwCl ws H → va_D A ws → va_S A s.heap H locs → lv_has ls nL lv → W p l e R s m args below meth c H locs cells slots Q (F0 m pc ls st)
/-- .. with the exception n thrown there -/
def Gx (p : Program) (l : Launch) (e : Env) (R : Room) (s : State) (m : MethodId) (args : Array Value) (below : List Frame) (meth : Method) (c : Code) (D : va_G) (A : Nat → Prop) (nL : Nat) (Q : State → Prop) (ws : va_W) (cells slots pc : Nat) (lv : List (Nat × Value)) (n : Nat) : Prop :=
  ∀ (H : Heap) (locs : List Loc) (ls : Array Slot) (rest : List Value) (q : Nat) (ce : Cell), va_P D vwCl ws H → va_D A ws → va_S A s.heap H locs → lv_has ls nL lv → H[q]? = some ce → ce.vm = .none → s.vm.findClass (xn n) = some ce.cls → vx_W p l e R s m args below meth c H locs cells slots Q (F0 m pc ls rest) q
/-- what stays in a method's walk -/
def Cx (ss : Ev) (p : Program) (l : Launch) (s : State) (m : MethodId) (args : Array Value) (meth : Method) (c : Code) (cc : ByteArray) (nL : Nat) (Ts : List Cond) (own : String) (D : va_G) (tys : List (ClassId × FieldType)) (A : Nat → Prop) (tb : List ExceptionTableEntry) : Prop :=
  p.tables.exec = Jvm.exec ∧ c.code = cc ∧ c.maxLocals = nL ∧ s.vm.findClass own = some m.cls ∧ (∀ w ∈ Ts, w.before args s = true) ∧ va_K D vwCl tys s ∧ (∀ q, s.heap.size ≤ q → A q) ∧ meth.locks = false ∧ Env9 ss A s ∧ c.exceptionTable.toList = tb ∧ l.stackTraces = false
theorem Cx.w (C : Cx ss p l s m args meth c cc nL Ts own D tys A tb) (w : Cond) (h : w ∈ Ts) : w.before args s = true := C.2.2.2.2.1 w h
/-- what a body owes at its end -/
def CQ (below : List Frame) (D : va_G) (W0 : va_W) (Rr : Oc → Prop) (args : Array Value) (s : State) (mc ms : Nat) (A : Nat → Prop) : State → Prop := vx_MQ below (CtR D Rr A) (CtX D W0 Rr A) args s mc ms A
theorem ct_of {y : MethodName} {ws ws' : List Cond} {rm : Room} {As : List Value} {W0 : va_W} {Rr : Oc → Prop} {mc ms : Nat} {ret : Option FieldType} (hfl : l.stackTraces = false) (hy : plainName y.cls = true) (ho : y.cls = own) (hw : ws = Cond.code y cc nL ret :: ws') (hn : (lg_sl As).length ≤ nL)
    (k : ∀ (p : Program) (e : Env) (s : State) (m : MethodId) (args : Array Value) (below : List Frame) (meth : Method) (c : Code) (A : Nat → Prop), Cx ss p l s m args meth c cc nL ws own D tys A [] → meth.sig.returnType = ret → meth.name = y.name →
      Gq p l e rm s m args below meth c D A nL (CQ below D W0 Rr args s mc ms A) W0 0 0 0 (lv_args 0 As) []) : Ct ss l y ws rm D tys As W0 Rr mc ms := by
  intro sz
  refine vx_ofW (cc := cc) (maxL := nL) (ret := ret) hy hw ?_
  intro p e s m args below meth c s₁ B hml hxt hv
  obtain ⟨rfl, hsz, hP, hK, hD0, hE⟩ := hv
  subst hsz
  subst ho
  have hts := atoms_spec (ws := ws) B.pre
  have hown : s.vm.findClass y.cls = some m.cls := findClass_of_methodNamed B.named
  have hxl : c.exceptionTable.toList = [] := List.eq_nil_iff_forall_not_mem.mpr (fun x hx => hxt x hx)
  have C : Cx ss p l s m As.toArray meth c cc nL ws y.cls D tys (va_A W0 s.heap.size) [] := ⟨B.exec, B.bytes, hml, hown, hts, hK, fun q h => Or.inr h, B.notSynchronized, hE, hxl, hfl⟩
  have hl := lv_entry As (n := nL) hn
  rw [lg_entry_eq]
  exact k p e s m As.toArray below meth c _ C B.returns (name_of_methodNamed B.named B.method).1 s.heap [] _ hP hD0.self va_S.rf hl
theorem ct_ofH {y : MethodName} {ws ws' : List Cond} {rm : Room} {As : List Value} {W0 : va_W} {Rr : Oc → Prop} {mc ms : Nat} {ret : Option FieldType} {hh : List (Nat × Nat × Nat × Nat)} (hfl : l.stackTraces = false) (hy : plainName y.cls = true) (ho : y.cls = own) (hw : ws = Cond.codeWith y cc nL ret hh :: ws') (hn : (lg_sl As).length ≤ nL)
    (k : ∀ (p : Program) (e : Env) (s : State) (m : MethodId) (args : Array Value) (below : List Frame) (meth : Method) (c : Code) (A : Nat → Prop), Cx ss p l s m args meth c cc nL ws own D tys A (tableOf hh) → meth.sig.returnType = ret → meth.name = y.name →
      Gq p l e rm s m args below meth c D A nL (CQ below D W0 Rr args s mc ms A) W0 0 0 0 (lv_args 0 As) []) : Ct ss l y ws rm D tys As W0 Rr mc ms := by
  intro sz
  refine vx_ofWH (cc := cc) (maxL := nL) (ret := ret) (hh := hh) hy hw ?_
  intro p e s m args below meth c s₁ B hml hv
  obtain ⟨rfl, hsz, hP, hK, hD0, hE⟩ := hv
  subst hsz
  subst ho
  have hts := atoms_spec (ws := ws) B.pre
  have hown : s.vm.findClass y.cls = some m.cls := findClass_of_methodNamed B.named
  have hxl : c.exceptionTable.toList = tableOf hh := vx_table (x := y) B (hts _ (by rw [hw]; exact List.mem_cons_self))
  have C : Cx ss p l s m As.toArray meth c cc nL ws y.cls D tys (va_A W0 s.heap.size) (tableOf hh) := ⟨B.exec, B.bytes, hml, hown, hts, hK, fun q h => Or.inr h, B.notSynchronized, hE, hxl, hfl⟩
  have hl := lv_entry As (n := nL) hn
  rw [lg_entry_eq]
  exact k p e s m As.toArray below meth c _ C B.returns (name_of_methodNamed B.named B.method).1 s.heap [] _ hP hD0.self va_S.rf hl
/-! rows: constants, locals, arithmetic -/
theorem g_lv (ks : List Nat) (hk : lv_pick lv ks = lv') (kk : Gq p l e R s m args below meth c D A nL Q ws cells slots pc lv' st) : Gq p l e R s m args below meth c D A nL Q ws cells slots pc lv st := fun H locs ls hP hD hS hl => kk H locs ls hP hD hS (lv_sub hl ks hk)
theorem g_pc (h : pc = q) (kk : Gq p l e R s m args below meth c D A nL Q ws cells slots q lv st) : Gq p l e R s m args below meth c D A nL Q ws cells slots pc lv st := h ▸ kk
theorem g_wide {c2 s2 : Nat} (h1 : cells ≤ c2) (h2 : slots ≤ s2) (kk : Gq p l e R s m args below meth c D A nL Q ws c2 s2 pc lv st) : Gq p l e R s m args below meth c D A nL Q ws cells slots pc lv st := fun H locs ls hP hD hS hl => W.widen h1 h2 (kk H locs ls hP hD hS hl)
theorem g_left {wr : va_W} (hw : ws = ws' ++ wr) (kk : Gq p l e R s m args below meth c D A nL Q ws' cells slots pc lv st) : Gq p l e R s m args below meth c D A nL Q ws cells slots pc lv st := by
  subst hw
  exact fun H locs ls hP hD hS hl => kk H locs ls (vp_app.mp hP).1 (vd_app.mp hD).1 hS hl
theorem g_iconst (C : Cx ss p l s m args meth c cc nL Ts own D tys A tb) {n : Int} {v : Int32} (d : decode cc pc = .ok (.iconst n, 1)) (q : Nat) (hq : pc + 1 = q) (hv : Int32.ofInt n = v) (kk : Gq p l e R s m args below meth c D A nL Q ws cells slots q lv (.int v :: st)) : Gq p l e R s m args below meth c D A nL Q ws cells slots pc lv st := by
  subst hq
  exact fun H locs ls hP hD hS hl => lv_iconst C.1 C.2.1 d hv (kk H locs ls hP hD hS hl)
theorem g_bipush (C : Cx ss p l s m args meth c cc nL Ts own D tys A tb) {n : Int} {v : Int32} (d : decode cc pc = .ok (.bipush n, 2)) (q : Nat) (hq : pc + 2 = q) (hv : (Int8.ofInt n).toInt32 = v) (kk : Gq p l e R s m args below meth c D A nL Q ws cells slots q lv (.int v :: st)) : Gq p l e R s m args below meth c D A nL Q ws cells slots pc lv st := by
  subst hq
  exact fun H locs ls hP hD hS hl => lv_bipush C.1 C.2.1 d hv (kk H locs ls hP hD hS hl)
theorem g_lconst (C : Cx ss p l s m args meth c cc nL Ts own D tys A tb) {n : Fin 2} {v : Int64} (d : decode cc pc = .ok (.lconst n, 1)) (q : Nat) (hq : pc + 1 = q) (hv : Int64.ofNat (n : Nat) = v) (kk : Gq p l e R s m args below meth c D A nL Q ws cells slots q lv (.long v :: st)) : Gq p l e R s m args below meth c D A nL Q ws cells slots pc lv st := by
  subst hq
  exact fun H locs ls hP hD hS hl => lv_lconst C.1 C.2.1 d hv (kk H locs ls hP hD hS hl)
theorem g_dconst0 (C : Cx ss p l s m args meth c cc nL Ts own D tys A tb) (d : decode cc pc = .ok (.dconst 0, 1)) (q : Nat) (hq : pc + 1 = q) (kk : Gq p l e R s m args below meth c D A nL Q ws cells slots q lv (.double FP.dconst0 :: st)) : Gq p l e R s m args below meth c D A nL Q ws cells slots pc lv st := by
  subst hq
  exact fun H locs ls hP hD hS hl => lv_dconst0 C.1 C.2.1 d (kk H locs ls hP hD hS hl)
theorem g_ldc2 (C : Cx ss p l s m args meth c cc nL Ts own D tys A tb) {i : Nat} {v : Int64} (hw : (Cond.constantLong own i v).before args s = true) (d : decode cc pc = .ok (.ldc2_w i, 3)) (q : Nat) (hq : pc + 3 = q) (kk : Gq p l e R s m args below meth c D A nL Q ws cells slots q lv (.long v :: st)) : Gq p l e R s m args below meth c D A nL Q ws cells slots pc lv st := by
  subst hq
  exact fun H locs ls hP hD hS hl => lv_ldc2 C.1 C.2.1 C.2.2.2.1 hw d (kk H locs ls hP hD hS hl)
theorem g_iload_n (C : Cx ss p l s m args meth c cc nL Ts own D tys A tb) {k : Fin 4} {x : Int32} (d : decode cc pc = .ok (.iload_n k, 1)) (q : Nat) (hq : pc + 1 = q) (j : Nat) (hj : lv[j]? = some ((k : Nat), .int x)) (kk : Gq p l e R s m args below meth c D A nL Q ws cells slots q lv (.int x :: st)) : Gq p l e R s m args below meth c D A nL Q ws cells slots pc lv st := by
  subst hq
  exact fun H locs ls hP hD hS hl => lv_iload_n C.1 C.2.1 d rfl (lv_at hl j hj) (kk H locs ls hP hD hS hl)
theorem g_iload (C : Cx ss p l s m args meth c cc nL Ts own D tys A tb) {i : Nat} {x : Int32} (d : decode cc pc = .ok (.iload i, 2)) (q : Nat) (hq : pc + 2 = q) (j : Nat) (hj : lv[j]? = some (i, .int x)) (kk : Gq p l e R s m args below meth c D A nL Q ws cells slots q lv (.int x :: st)) : Gq p l e R s m args below meth c D A nL Q ws cells slots pc lv st := by
  subst hq
  exact fun H locs ls hP hD hS hl => lv_iload C.1 C.2.1 d (lv_at hl j hj) (kk H locs ls hP hD hS hl)
theorem g_aload_n (C : Cx ss p l s m args meth c cc nL Ts own D tys A tb) {k : Fin 4} {x : Nat} (d : decode cc pc = .ok (.aload_n k, 1)) (q : Nat) (hq : pc + 1 = q) (j : Nat) (hj : lv[j]? = some ((k : Nat), .ref x)) (kk : Gq p l e R s m args below meth c D A nL Q ws cells slots q lv (.ref x :: st)) : Gq p l e R s m args below meth c D A nL Q ws cells slots pc lv st := by
  subst hq
  exact fun H locs ls hP hD hS hl => lv_aload_n C.1 C.2.1 d rfl (lv_at hl j hj) (kk H locs ls hP hD hS hl)
theorem g_aload (C : Cx ss p l s m args meth c cc nL Ts own D tys A tb) {i : Nat} {x : Nat} (d : decode cc pc = .ok (.aload i, 2)) (q : Nat) (hq : pc + 2 = q) (j : Nat) (hj : lv[j]? = some (i, .ref x)) (kk : Gq p l e R s m args below meth c D A nL Q ws cells slots q lv (.ref x :: st)) : Gq p l e R s m args below meth c D A nL Q ws cells slots pc lv st := by
  subst hq
  exact fun H locs ls hP hD hS hl => lv_aload C.1 C.2.1 d (lv_at hl j hj) (kk H locs ls hP hD hS hl)
theorem g_lload_n (C : Cx ss p l s m args meth c cc nL Ts own D tys A tb) {k : Fin 4} {x : Int64} (d : decode cc pc = .ok (.lload_n k, 1)) (q : Nat) (hq : pc + 1 = q) (j : Nat) (hj : lv[j]? = some ((k : Nat), .long x)) (kk : Gq p l e R s m args below meth c D A nL Q ws cells slots q lv (.long x :: st)) : Gq p l e R s m args below meth c D A nL Q ws cells slots pc lv st := by
  subst hq
  exact fun H locs ls hP hD hS hl => lv_lload_n C.1 C.2.1 d rfl (lv_at hl j hj) (kk H locs ls hP hD hS hl)
theorem g_dload (C : Cx ss p l s m args meth c cc nL Ts own D tys A tb) {i : Nat} {x : UInt64} (d : decode cc pc = .ok (.dload i, 2)) (q : Nat) (hq : pc + 2 = q) (j : Nat) (hj : lv[j]? = some (i, .double x)) (kk : Gq p l e R s m args below meth c D A nL Q ws cells slots q lv (.double x :: st)) : Gq p l e R s m args below meth c D A nL Q ws cells slots pc lv st := by
  subst hq
  exact fun H locs ls hP hD hS hl => lv_dload C.1 C.2.1 d (lv_at hl j hj) (kk H locs ls hP hD hS hl)
theorem g_istore_n (C : Cx ss p l s m args meth c cc nL Ts own D tys A tb) {k : Fin 4} {x : Int32} (d : decode cc pc = .ok (.istore_n k, 1)) (q : Nat) (hq : pc + 1 = q) (hn : (k : Nat) < nL) (hl' : ((k : Nat), Value.int x) :: lv.filter (fun q => !(q.1 == (k : Nat)) && !(q.1 + 1 == (k : Nat) && q.2.category == 2)) = lv') (kk : Gq p l e R s m args below meth c D A nL Q ws cells slots q lv' st) : Gq p l e R s m args below meth c D A nL Q ws cells slots pc lv (.int x :: st) := by
  subst hq
  exact fun H locs ls hP hD hS hl => lv_istore_n C.1 C.2.1 d rfl hl hn hl' (fun ls hl => kk H locs ls hP hD hS hl)
theorem g_istore (C : Cx ss p l s m args meth c cc nL Ts own D tys A tb) {i : Nat} {x : Int32} (d : decode cc pc = .ok (.istore i, 2)) (q : Nat) (hq : pc + 2 = q) (hn : i < nL) (hl' : (i, Value.int x) :: lv.filter (fun q => !(q.1 == i) && !(q.1 + 1 == i && q.2.category == 2)) = lv') (kk : Gq p l e R s m args below meth c D A nL Q ws cells slots q lv' st) : Gq p l e R s m args below meth c D A nL Q ws cells slots pc lv (.int x :: st) := by
  subst hq
  exact fun H locs ls hP hD hS hl => lv_istore C.1 C.2.1 d hl hn hl' (fun ls hl => kk H locs ls hP hD hS hl)
theorem g_astore_n (C : Cx ss p l s m args meth c cc nL Ts own D tys A tb) {k : Fin 4} {x : Nat} (d : decode cc pc = .ok (.astore_n k, 1)) (q : Nat) (hq : pc + 1 = q) (hn : (k : Nat) < nL) (hl' : ((k : Nat), Value.ref x) :: lv.filter (fun q => !(q.1 == (k : Nat)) && !(q.1 + 1 == (k : Nat) && q.2.category == 2)) = lv') (kk : Gq p l e R s m args below meth c D A nL Q ws cells slots q lv' st) : Gq p l e R s m args below meth c D A nL Q ws cells slots pc lv (.ref x :: st) := by
  subst hq
  exact fun H locs ls hP hD hS hl => lv_astore_n C.1 C.2.1 d rfl hl hn hl' (fun ls hl => kk H locs ls hP hD hS hl)
theorem g_astore (C : Cx ss p l s m args meth c cc nL Ts own D tys A tb) {i : Nat} {x : Nat} (d : decode cc pc = .ok (.astore i, 2)) (q : Nat) (hq : pc + 2 = q) (hn : i < nL) (hl' : (i, Value.ref x) :: lv.filter (fun q => !(q.1 == i) && !(q.1 + 1 == i && q.2.category == 2)) = lv') (kk : Gq p l e R s m args below meth c D A nL Q ws cells slots q lv' st) : Gq p l e R s m args below meth c D A nL Q ws cells slots pc lv (.ref x :: st) := by
  subst hq
  exact fun H locs ls hP hD hS hl => lv_astore C.1 C.2.1 d hl hn hl' (fun ls hl => kk H locs ls hP hD hS hl)
theorem g_lstore_n (C : Cx ss p l s m args meth c cc nL Ts own D tys A tb) {k : Fin 4} {x : Int64} (d : decode cc pc = .ok (.lstore_n k, 1)) (q : Nat) (hq : pc + 1 = q) (hn : (k : Nat) + 1 < nL) (hl' : ((k : Nat), Value.long x) :: lv.filter (fun q => !(q.1 == (k : Nat)) && (!(q.1 == (k : Nat) + 1) && !(q.1 + 1 == (k : Nat) && q.2.category == 2))) = lv') (kk : Gq p l e R s m args below meth c D A nL Q ws cells slots q lv' st) : Gq p l e R s m args below meth c D A nL Q ws cells slots pc lv (.long x :: st) := by
  subst hq
  exact fun H locs ls hP hD hS hl => lv_lstore_n C.1 C.2.1 d rfl hl hn hl' (fun ls hl => kk H locs ls hP hD hS hl)
theorem g_dstore (C : Cx ss p l s m args meth c cc nL Ts own D tys A tb) {i : Nat} {x : UInt64} (d : decode cc pc = .ok (.dstore i, 2)) (q : Nat) (hq : pc + 2 = q) (hn : i + 1 < nL) (hl' : (i, Value.double x) :: lv.filter (fun q => !(q.1 == i) && (!(q.1 == i + 1) && !(q.1 + 1 == i && q.2.category == 2))) = lv') (kk : Gq p l e R s m args below meth c D A nL Q ws cells slots q lv' st) : Gq p l e R s m args below meth c D A nL Q ws cells slots pc lv (.double x :: st) := by
  subst hq
  exact fun H locs ls hP hD hS hl => lv_dstore C.1 C.2.1 d hl hn hl' (fun ls hl => kk H locs ls hP hD hS hl)
theorem g_iinc (C : Cx ss p l s m args meth c cc nL Ts own D tys A tb) {i : Nat} {n : Int} {x v : Int32} (d : decode cc pc = .ok (.iinc i n, 3)) (q : Nat) (hq : pc + 3 = q) (j : Nat) (hj : lv[j]? = some (i, .int x)) (hv : x + Int32.ofInt n = v) (hn : i < nL) (hl' : (i, Value.int v) :: lv.filter (fun q => !(q.1 == i) && !(q.1 + 1 == i && q.2.category == 2)) = lv') (kk : Gq p l e R s m args below meth c D A nL Q ws cells slots q lv' st) : Gq p l e R s m args below meth c D A nL Q ws cells slots pc lv st := by
  subst hq
  exact fun H locs ls hP hD hS hl => lv_iinc C.1 C.2.1 d hl hj hv hn hl' (fun ls hl => kk H locs ls hP hD hS hl)
theorem g_iadd (C : Cx ss p l s m args meth c cc nL Ts own D tys A tb) {x y : Int32} (d : decode cc pc = .ok (.iadd, 1)) (q : Nat) (hq : pc + 1 = q) (kk : Gq p l e R s m args below meth c D A nL Q ws cells slots q lv (.int (x + y) :: st)) : Gq p l e R s m args below meth c D A nL Q ws cells slots pc lv (.int y :: .int x :: st) := by
  subst hq
  exact fun H locs ls hP hD hS hl => lv_iadd C.1 C.2.1 d (kk H locs ls hP hD hS hl)
theorem g_isub (C : Cx ss p l s m args meth c cc nL Ts own D tys A tb) {x y : Int32} (d : decode cc pc = .ok (.isub, 1)) (q : Nat) (hq : pc + 1 = q) (kk : Gq p l e R s m args below meth c D A nL Q ws cells slots q lv (.int (x - y) :: st)) : Gq p l e R s m args below meth c D A nL Q ws cells slots pc lv (.int y :: .int x :: st) := by
  subst hq
  exact fun H locs ls hP hD hS hl => lv_isub C.1 C.2.1 d (kk H locs ls hP hD hS hl)
theorem g_imul (C : Cx ss p l s m args meth c cc nL Ts own D tys A tb) {x y : Int32} (d : decode cc pc = .ok (.imul, 1)) (q : Nat) (hq : pc + 1 = q) (kk : Gq p l e R s m args below meth c D A nL Q ws cells slots q lv (.int (x * y) :: st)) : Gq p l e R s m args below meth c D A nL Q ws cells slots pc lv (.int y :: .int x :: st) := by
  subst hq
  exact fun H locs ls hP hD hS hl => lv_imul C.1 C.2.1 d (kk H locs ls hP hD hS hl)
theorem g_idiv (C : Cx ss p l s m args meth c cc nL Ts own D tys A tb) {x y : Int32} (hy : ¬ y = 0) (d : decode cc pc = .ok (.idiv, 1)) (q : Nat) (hq : pc + 1 = q) (kk : Gq p l e R s m args below meth c D A nL Q ws cells slots q lv (.int (x / y) :: st)) : Gq p l e R s m args below meth c D A nL Q ws cells slots pc lv (.int y :: .int x :: st) := by
  subst hq
  exact fun H locs ls hP hD hS hl => lv_idiv C.1 C.2.1 d hy (kk H locs ls hP hD hS hl)
theorem g_iand (C : Cx ss p l s m args meth c cc nL Ts own D tys A tb) {x y : Int32} (d : decode cc pc = .ok (.iand, 1)) (q : Nat) (hq : pc + 1 = q) (kk : Gq p l e R s m args below meth c D A nL Q ws cells slots q lv (.int (x &&& y) :: st)) : Gq p l e R s m args below meth c D A nL Q ws cells slots pc lv (.int y :: .int x :: st) := by
  subst hq
  exact fun H locs ls hP hD hS hl => lv_iand C.1 C.2.1 d (kk H locs ls hP hD hS hl)
theorem g_ladd (C : Cx ss p l s m args meth c cc nL Ts own D tys A tb) {x y : Int64} (d : decode cc pc = .ok (.ladd, 1)) (q : Nat) (hq : pc + 1 = q) (kk : Gq p l e R s m args below meth c D A nL Q ws cells slots q lv (.long (x + y) :: st)) : Gq p l e R s m args below meth c D A nL Q ws cells slots pc lv (.long y :: .long x :: st) := by
  subst hq
  exact fun H locs ls hP hD hS hl => lv_ladd C.1 C.2.1 d (kk H locs ls hP hD hS hl)
theorem g_lmul (C : Cx ss p l s m args meth c cc nL Ts own D tys A tb) {x y : Int64} (d : decode cc pc = .ok (.lmul, 1)) (q : Nat) (hq : pc + 1 = q) (kk : Gq p l e R s m args below meth c D A nL Q ws cells slots q lv (.long (x * y) :: st)) : Gq p l e R s m args below meth c D A nL Q ws cells slots pc lv (.long y :: .long x :: st) := by
  subst hq
  exact fun H locs ls hP hD hS hl => lv_lmul C.1 C.2.1 d (kk H locs ls hP hD hS hl)
theorem g_lcmp (C : Cx ss p l s m args meth c cc nL Ts own D tys A tb) {x y : Int64} (d : decode cc pc = .ok (.lcmp, 1)) (q : Nat) (hq : pc + 1 = q) (kk : Gq p l e R s m args below meth c D A nL Q ws cells slots q lv (.int (lg_cmp x y) :: st)) : Gq p l e R s m args below meth c D A nL Q ws cells slots pc lv (.long y :: .long x :: st) := by
  subst hq
  exact fun H locs ls hP hD hS hl => W.lcmp C.1 C.2.1 d (kk H locs ls hP hD hS hl)
theorem g_dcmp (C : Cx ss p l s m args meth c cc nL Ts own D tys A tb) {x y : UInt64} {op : CmpOp} (d : decode cc pc = .ok (.dcmp op, 1)) (q : Nat) (hq : pc + 1 = q) (kk : Gq p l e R s m args below meth c D A nL Q ws cells slots q lv (.int (Op.cmpValue (FP.dcmp x y) op) :: st)) : Gq p l e R s m args below meth c D A nL Q ws cells slots pc lv (.double y :: .double x :: st) := by
  subst hq
  exact fun H locs ls hP hD hS hl => lv_dcmp C.1 C.2.1 d (kk H locs ls hP hD hS hl)
theorem g_ddiv (C : Cx ss p l s m args meth c cc nL Ts own D tys A tb) {x y : UInt64} (hne : vf_n64 (FP.ddiv x y)) (d : decode cc pc = .ok (.ddiv, 1)) (q : Nat) (hq : pc + 1 = q) (kk : Gq p l e R s m args below meth c D A nL Q ws cells slots q lv (.double (FP.ddiv x y) :: st)) : Gq p l e R s m args below meth c D A nL Q ws cells slots pc lv (.double y :: .double x :: st) := by
  subst hq
  exact fun H locs ls hP hD hS hl => lv_ddiv C.1 C.2.1 d hne (kk H locs ls hP hD hS hl)
theorem g_i2l (C : Cx ss p l s m args meth c cc nL Ts own D tys A tb) {x : Int32} (d : decode cc pc = .ok (.i2l, 1)) (q : Nat) (hq : pc + 1 = q) (kk : Gq p l e R s m args below meth c D A nL Q ws cells slots q lv (.long x.toInt64 :: st)) : Gq p l e R s m args below meth c D A nL Q ws cells slots pc lv (.int x :: st) := by
  subst hq
  exact fun H locs ls hP hD hS hl => lv_i2l C.1 C.2.1 d rfl (kk H locs ls hP hD hS hl)
theorem g_i2d (C : Cx ss p l s m args meth c cc nL Ts own D tys A tb) {x : Int32} (d : decode cc pc = .ok (.i2d, 1)) (q : Nat) (hq : pc + 1 = q) (kk : Gq p l e R s m args below meth c D A nL Q ws cells slots q lv (.double (FP.i2d x) :: st)) : Gq p l e R s m args below meth c D A nL Q ws cells slots pc lv (.int x :: st) := by
  subst hq
  exact fun H locs ls hP hD hS hl => lv_i2d C.1 C.2.1 d (kk H locs ls hP hD hS hl)
theorem g_dup (C : Cx ss p l s m args meth c cc nL Ts own D tys A tb) {va : Value} (d : decode cc pc = .ok (.dup, 1)) (q : Nat) (hq : pc + 1 = q) (hva : va.category = 1) (kk : Gq p l e R s m args below meth c D A nL Q ws cells slots q lv (va :: va :: st)) : Gq p l e R s m args below meth c D A nL Q ws cells slots pc lv (va :: st) := by
  subst hq
  exact fun H locs ls hP hD hS hl => lv_dup C.1 C.2.1 d hva (kk H locs ls hP hD hS hl)
theorem g_dup2 (C : Cx ss p l s m args meth c cc nL Ts own D tys A tb) {va vb : Value} (d : decode cc pc = .ok (.dup2, 1)) (q : Nat) (hq : pc + 1 = q) (hva : va.category = 1) (hvb : vb.category = 1) (kk : Gq p l e R s m args below meth c D A nL Q ws cells slots q lv (va :: vb :: va :: vb :: st)) : Gq p l e R s m args below meth c D A nL Q ws cells slots pc lv (va :: vb :: st) := by
  subst hq
  exact fun H locs ls hP hD hS hl => lv_dup2_11 C.1 C.2.1 d hva hvb (kk H locs ls hP hD hS hl)
/-! rows: branches -/
theorem g_goto (C : Cx ss p l s m args meth c cc nL Ts own D tys A tb) {off : Int} (d : decode cc pc = .ok (.goto off, 3)) (tgt : Nat) (ht : (pc : Int) + off = (tgt : Int)) (kk : Gq p l e R s m args below meth c D A nL Q ws cells slots tgt lv st) : Gq p l e R s m args below meth c D A nL Q ws cells slots pc lv st := fun H locs ls hP hD hS hl => lv_goto C.1 C.2.1 d ht (kk H locs ls hP hD hS hl)
theorem g_icmp_ge (C : Cx ss p l s m args meth c cc nL Ts own D tys A tb) {x y : Int32} {off : Int} (d : decode cc pc = .ok (.if_icmp .ge off, 3)) (tgt q : Nat) (ht : (pc : Int) + off = (tgt : Int)) (hq : pc + 3 = q) (kt : y ≤ x → Gq p l e R s m args below meth c D A nL Q ws cells slots tgt lv st) (kf : ¬ y ≤ x → Gq p l e R s m args below meth c D A nL Q ws cells slots q lv st) : Gq p l e R s m args below meth c D A nL Q ws cells slots pc lv (.int y :: .int x :: st) := by
  subst hq
  exact fun H locs ls hP hD hS hl => lv_icmp_ge C.1 C.2.1 d ht (fun h => kt h H locs ls hP hD hS hl) (fun h => kf h H locs ls hP hD hS hl)
theorem g_icmp_lt (C : Cx ss p l s m args meth c cc nL Ts own D tys A tb) {x y : Int32} {off : Int} (d : decode cc pc = .ok (.if_icmp .lt off, 3)) (tgt q : Nat) (ht : (pc : Int) + off = (tgt : Int)) (hq : pc + 3 = q) (kt : x < y → Gq p l e R s m args below meth c D A nL Q ws cells slots tgt lv st) (kf : ¬ x < y → Gq p l e R s m args below meth c D A nL Q ws cells slots q lv st) : Gq p l e R s m args below meth c D A nL Q ws cells slots pc lv (.int y :: .int x :: st) := by
  subst hq
  exact fun H locs ls hP hD hS hl => lv_icmp_lt C.1 C.2.1 d ht (fun h => kt h H locs ls hP hD hS hl) (fun h => kf h H locs ls hP hD hS hl)
theorem g_icmp_gt (C : Cx ss p l s m args meth c cc nL Ts own D tys A tb) {x y : Int32} {off : Int} (d : decode cc pc = .ok (.if_icmp .gt off, 3)) (tgt q : Nat) (ht : (pc : Int) + off = (tgt : Int)) (hq : pc + 3 = q) (kt : y < x → Gq p l e R s m args below meth c D A nL Q ws cells slots tgt lv st) (kf : ¬ y < x → Gq p l e R s m args below meth c D A nL Q ws cells slots q lv st) : Gq p l e R s m args below meth c D A nL Q ws cells slots pc lv (.int y :: .int x :: st) := by
  subst hq
  exact fun H locs ls hP hD hS hl => lv_icmp_gt C.1 C.2.1 d ht (fun h => kt h H locs ls hP hD hS hl) (fun h => kf h H locs ls hP hD hS hl)
theorem g_icmp_le (C : Cx ss p l s m args meth c cc nL Ts own D tys A tb) {x y : Int32} {off : Int} (d : decode cc pc = .ok (.if_icmp .le off, 3)) (tgt q : Nat) (ht : (pc : Int) + off = (tgt : Int)) (hq : pc + 3 = q) (kt : x ≤ y → Gq p l e R s m args below meth c D A nL Q ws cells slots tgt lv st) (kf : ¬ x ≤ y → Gq p l e R s m args below meth c D A nL Q ws cells slots q lv st) : Gq p l e R s m args below meth c D A nL Q ws cells slots pc lv (.int y :: .int x :: st) := by
  subst hq
  exact fun H locs ls hP hD hS hl => lv_icmp_le C.1 C.2.1 d ht (fun h => kt h H locs ls hP hD hS hl) (fun h => kf h H locs ls hP hD hS hl)
theorem g_icmp_eq (C : Cx ss p l s m args meth c cc nL Ts own D tys A tb) {x y : Int32} {off : Int} (d : decode cc pc = .ok (.if_icmp .eq off, 3)) (tgt q : Nat) (ht : (pc : Int) + off = (tgt : Int)) (hq : pc + 3 = q) (kt : x = y → Gq p l e R s m args below meth c D A nL Q ws cells slots tgt lv st) (kf : ¬ x = y → Gq p l e R s m args below meth c D A nL Q ws cells slots q lv st) : Gq p l e R s m args below meth c D A nL Q ws cells slots pc lv (.int y :: .int x :: st) := by
  subst hq
  exact fun H locs ls hP hD hS hl => lv_icmp_eq C.1 C.2.1 d ht (fun h => kt h H locs ls hP hD hS hl) (fun h => kf h H locs ls hP hD hS hl)
theorem g_icmp_ne (C : Cx ss p l s m args meth c cc nL Ts own D tys A tb) {x y : Int32} {off : Int} (d : decode cc pc = .ok (.if_icmp .ne off, 3)) (tgt q : Nat) (ht : (pc : Int) + off = (tgt : Int)) (hq : pc + 3 = q) (kt : ¬ x = y → Gq p l e R s m args below meth c D A nL Q ws cells slots tgt lv st) (kf : x = y → Gq p l e R s m args below meth c D A nL Q ws cells slots q lv st) : Gq p l e R s m args below meth c D A nL Q ws cells slots pc lv (.int y :: .int x :: st) := by
  subst hq
  exact fun H locs ls hP hD hS hl => lv_icmp_ne C.1 C.2.1 d ht (fun h => kt h H locs ls hP hD hS hl) (fun h => kf h H locs ls hP hD hS hl)
theorem g_if_eq (C : Cx ss p l s m args meth c cc nL Ts own D tys A tb) {x : Int32} {off : Int} (d : decode cc pc = .ok (.ifCond .eq off, 3)) (tgt q : Nat) (ht : (pc : Int) + off = (tgt : Int)) (hq : pc + 3 = q) (kt : x = 0 → Gq p l e R s m args below meth c D A nL Q ws cells slots tgt lv st) (kf : ¬ x = 0 → Gq p l e R s m args below meth c D A nL Q ws cells slots q lv st) : Gq p l e R s m args below meth c D A nL Q ws cells slots pc lv (.int x :: st) := by
  subst hq
  exact fun H locs ls hP hD hS hl => lv_if_eq C.1 C.2.1 d ht (fun h => kt h H locs ls hP hD hS hl) (fun h => kf h H locs ls hP hD hS hl)
theorem g_if_ne (C : Cx ss p l s m args meth c cc nL Ts own D tys A tb) {x : Int32} {off : Int} (d : decode cc pc = .ok (.ifCond .ne off, 3)) (tgt q : Nat) (ht : (pc : Int) + off = (tgt : Int)) (hq : pc + 3 = q) (kt : ¬ x = 0 → Gq p l e R s m args below meth c D A nL Q ws cells slots tgt lv st) (kf : x = 0 → Gq p l e R s m args below meth c D A nL Q ws cells slots q lv st) : Gq p l e R s m args below meth c D A nL Q ws cells slots pc lv (.int x :: st) := by
  subst hq
  exact fun H locs ls hP hD hS hl => lv_if_ne C.1 C.2.1 d ht (fun h => kt h H locs ls hP hD hS hl) (fun h => kf h H locs ls hP hD hS hl)
theorem g_if_lt (C : Cx ss p l s m args meth c cc nL Ts own D tys A tb) {x : Int32} {off : Int} (d : decode cc pc = .ok (.ifCond .lt off, 3)) (tgt q : Nat) (ht : (pc : Int) + off = (tgt : Int)) (hq : pc + 3 = q) (kt : x < 0 → Gq p l e R s m args below meth c D A nL Q ws cells slots tgt lv st) (kf : ¬ x < 0 → Gq p l e R s m args below meth c D A nL Q ws cells slots q lv st) : Gq p l e R s m args below meth c D A nL Q ws cells slots pc lv (.int x :: st) := by
  subst hq
  exact fun H locs ls hP hD hS hl => lv_if_lt C.1 C.2.1 d ht (fun h => kt h H locs ls hP hD hS hl) (fun h => kf h H locs ls hP hD hS hl)
theorem g_if_le (C : Cx ss p l s m args meth c cc nL Ts own D tys A tb) {x : Int32} {off : Int} (d : decode cc pc = .ok (.ifCond .le off, 3)) (tgt q : Nat) (ht : (pc : Int) + off = (tgt : Int)) (hq : pc + 3 = q) (kt : x ≤ 0 → Gq p l e R s m args below meth c D A nL Q ws cells slots tgt lv st) (kf : ¬ x ≤ 0 → Gq p l e R s m args below meth c D A nL Q ws cells slots q lv st) : Gq p l e R s m args below meth c D A nL Q ws cells slots pc lv (.int x :: st) := by
  subst hq
  exact fun H locs ls hP hD hS hl => lv_if_le C.1 C.2.1 d ht (fun h => kt h H locs ls hP hD hS hl) (fun h => kf h H locs ls hP hD hS hl)
theorem g_if_gt (C : Cx ss p l s m args meth c cc nL Ts own D tys A tb) {x : Int32} {off : Int} (d : decode cc pc = .ok (.ifCond .gt off, 3)) (tgt q : Nat) (ht : (pc : Int) + off = (tgt : Int)) (hq : pc + 3 = q) (kt : 0 < x → Gq p l e R s m args below meth c D A nL Q ws cells slots tgt lv st) (kf : ¬ 0 < x → Gq p l e R s m args below meth c D A nL Q ws cells slots q lv st) : Gq p l e R s m args below meth c D A nL Q ws cells slots pc lv (.int x :: st) := by
  subst hq
  exact fun H locs ls hP hD hS hl => lv_if_gt C.1 C.2.1 d ht (fun h => kt h H locs ls hP hD hS hl) (fun h => kf h H locs ls hP hD hS hl)
/-! rows: fields and arrays -/
theorem g_get (C : Cx ss p l s m args meth c cc nL Ts own D tys A tb) {ref Cn : String} {T : u_T} {N ci i a : Nat} {fs : List Value} {v : Value} (hin : ∀ w ∈ u_ws Cn T N, w ∈ Ts) (q0 : Nat) (he : ws[q0]? = some (a, .inr (ci, fs))) (hc : vwCl[ci]? = some (Cn, T, N)) (k : Nat) (hk : k < N) (hlink : (Cond.fieldLink own i ref (T k).2.1 (T k).2.2.1).before args s = true) (hsame : (T k).1 = ref) (hv : fs[k]? = some v) (d : decode cc pc = .ok (.getfield i, 3)) (q : Nat) (hq : pc + 3 = q)
    (kk : Gq p l e R s m args below meth c D A nL Q ws cells slots q lv (v :: st)) : Gq p l e R s m args below meth c D A nL Q ws cells slots pc lv (.ref a :: st) := by
  subst hq
  exact fun H locs ls hP hD hS hl => va_get C.1 C.2.1 C.2.2.2.2.1 hin C.2.2.2.1 C.2.2.2.2.2.1 hP q0 he hc k hk hlink (fun x h => by rw [← hsame]; exact h) hv d (kk H locs ls hP hD hS hl)
theorem g_put (C : Cx ss p l s m args meth c cc nL Ts own D tys A tb) {ref Cn : String} {T : u_T} {N ci i a : Nat} {fs : List Value} {x : Int32} (hin : ∀ w ∈ u_ws Cn T N, w ∈ Ts) (ty0 : Nat → FieldType) (hty : ∀ k, k < N → parseFieldDescriptor (T k).2.2.1 = some (ty0 k)) (hnm : ∀ a, a < N → ∀ b, b < N → a ≠ b → (T a).2.1 ≠ (T b).2.1) (q0 : Nat) (he : ws[q0]? = some (a, .inr (ci, fs))) (hc : vwCl[ci]? = some (Cn, T, N)) (k : Nat) (hk : k < N) (hlink : (Cond.fieldLink own i ref (T k).2.1 (T k).2.2.1).before args s = true) (hsame : (T k).1 = ref) (hfl : (T k).2.2.2 = false) (hti : ty0 k = .int) (hl0 : k < fs.length) (hw : ws.set q0 (a, .inr (ci, fs.set k (.int x))) = ws') (d : decode cc pc = .ok (.putfield i, 3)) (q : Nat) (hq : pc + 3 = q)
    (kk : Gq p l e R s m args below meth c D A nL Q ws' cells slots q lv st) : Gq p l e R s m args below meth c D A nL Q ws cells slots pc lv (.int x :: .ref a :: st) := by
  subst hq
  subst hw
  refine fun H locs ls hP hD hS hl => va_put (v := .int x) (ty := .int) C.1 C.2.1 C.2.2.2.2.1 hin ty0 hty hnm C.2.2.2.1 C.2.2.2.2.2.1 hP hD hS q0 he hc k hk hlink (fun x h => by rw [← hsame]; exact h) hfl ?_ ?_ ?_ hl0 d (fun H locs hP hD hS => kk H locs ls hP hD hS hl)
  all_goals first | exact hti | rfl | (rw [hti]; rfl) | (rw [hty k hk, hti]; done)
theorem g_newa (C : Cx ss p l s m args meth c cc nL Ts own D tys A tb) {atype : ArrayType} {ty : FieldType} {cA : ClassId} {a0 : vp_A} {n : Int32} (harr : (Cond.arrayClass (newarray.typeOf atype)).before args s = true) (hty : newarray.typeOf atype = ty) (hobj : ∀ C, ty ≠ .object C) (t0 : Nat) (ht : tys[t0]? = some (cA, ty)) (N : Nat) (ha : ∀ cA : ClassId, vp_cell cA a0 = arrV cA N (fun _ => defaultValue ty)) (hn : ¬ n < 0) (hN : n.toNatClampNeg = N) (hby : N * componentBytes ty ≤ 536870912) {c2 s2 : Nat} (hc2 : cells + 1 = c2) (hs2 : slots + N = s2) (hcells : c2 ≤ R.cells) (hslots : s2 ≤ R.slots) (d : decode cc pc = .ok (.newarray atype, 2)) (q : Nat) (hq : pc + 2 = q)
    (kk : ∀ z : Nat, Gq p l e R s m args below meth c D A nL Q (ws ++ [(z, .inl (cA, a0))]) c2 s2 q lv (.ref z :: st)) : Gq p l e R s m args below meth c D A nL Q ws cells slots pc lv (.int n :: st) := by
  subst hq; subst hc2; subst hs2
  refine fun H locs ls hP hD hS hl => va_newa C.1 C.2.1 (atype := atype) harr hty C.2.2.2.2.2.1 hP hD hS C.2.2.2.2.2.2.1 (n := n) (N' := N) (a0 := a0) ha hn hN hby hcells hslots d (fun z cB H1 hK1 hP1 hD1 hS1 => ?_)
  have h1 := (hK1.2 tys.length (cB, ty) (by rw [List.getElem?_append_right (Nat.le_refl _)]; simp)).2
  have h2 := (C.2.2.2.2.2.1.2 t0 _ ht).2
  have e : cB = cA := by
    cases ty with
    | object C => exact absurd rfl (hobj C)
    | _ => exact Option.some.inj (h1.symm.trans h2)
  subst e
  exact kk z H1 locs ls hP1 hD1 hS1 hl
def ldA (f : Nat → Int32) (n : Nat) (i : Int32) : Option Int32 := if i < 0 ∨ n ≤ i.toNatClampNeg then none else some (f i.toNatClampNeg)
def ldL (f : Nat → Int64) (n : Nat) (i : Int32) : Option Int64 := if i < 0 ∨ n ≤ i.toNatClampNeg then none else some (f i.toNatClampNeg)
theorem ldA_s {f : Nat → Int32} {n : Nat} {i x : Int32} (h : ldA f n i = some x) : vp_in i n ∧ f i.toNatClampNeg = x := by
  unfold ldA at h
  split at h
  · cases h
  · exact ⟨by assumption, Option.some.inj h⟩
theorem ldL_s {f : Nat → Int64} {n : Nat} {i : Int32} {x : Int64} (h : ldL f n i = some x) : vp_in i n ∧ f i.toNatClampNeg = x := by
  unfold ldL at h
  split at h
  · cases h
  · exact ⟨by assumption, Option.some.inj h⟩
theorem g_iald (C : Cx ss p l s m args meth c cc nL Ts own D tys A tb) {a n : Nat} {cA : ClassId} {f : Nat → Int32} {i x : Int32} (q0 t0 : Nat) (ha : ws[q0]? = some (a, .inl (cA, n, .inl f))) (ht : tys[t0]? = some (cA, .int)) (hld : ldA f n i = some x) (d : decode cc pc = .ok (.iaload, 1)) (q : Nat) (hq : pc + 1 = q) (kk : Gq p l e R s m args below meth c D A nL Q ws cells slots q lv (.int x :: st)) : Gq p l e R s m args below meth c D A nL Q ws cells slots pc lv (.int i :: .ref a :: st) := by
  subst hq
  obtain ⟨hin, rfl⟩ := ldA_s hld
  exact fun H locs ls hP hD hS hl => va_iald C.1 C.2.1 C.2.2.2.2.2.1 hP q0 t0 ha ht hin d (kk H locs ls hP hD hS hl)
theorem g_zald (C : Cx ss p l s m args meth c cc nL Ts own D tys A tb) {a n : Nat} {cA : ClassId} {f : Nat → Int32} {i x : Int32} (q0 t0 : Nat) (ha : ws[q0]? = some (a, .inl (cA, n, .inl f))) (ht : tys[t0]? = some (cA, .boolean)) (hld : ldA f n i = some x) (d : decode cc pc = .ok (.baload, 1)) (q : Nat) (hq : pc + 1 = q) (kk : Gq p l e R s m args below meth c D A nL Q ws cells slots q lv (.int x :: st)) : Gq p l e R s m args below meth c D A nL Q ws cells slots pc lv (.int i :: .ref a :: st) := by
  subst hq
  obtain ⟨hin, rfl⟩ := ldA_s hld
  exact fun H locs ls hP hD hS hl => va_zald C.1 C.2.1 C.2.2.2.2.2.1 hP q0 t0 ha ht hin d (kk H locs ls hP hD hS hl)
theorem g_lald (C : Cx ss p l s m args meth c cc nL Ts own D tys A tb) {a n : Nat} {cA : ClassId} {f : Nat → Int64} {i : Int32} {x : Int64} (q0 t0 : Nat) (ha : ws[q0]? = some (a, .inl (cA, n, .inr (.inl f)))) (ht : tys[t0]? = some (cA, .long)) (hld : ldL f n i = some x) (d : decode cc pc = .ok (.laload, 1)) (q : Nat) (hq : pc + 1 = q) (kk : Gq p l e R s m args below meth c D A nL Q ws cells slots q lv (.long x :: st)) : Gq p l e R s m args below meth c D A nL Q ws cells slots pc lv (.int i :: .ref a :: st) := by
  subst hq
  obtain ⟨hin, rfl⟩ := ldL_s hld
  exact fun H locs ls hP hD hS hl => va_lald C.1 C.2.1 C.2.2.2.2.2.1 hP q0 t0 ha ht hin d (kk H locs ls hP hD hS hl)
theorem g_iast (C : Cx ss p l s m args meth c cc nL Ts own D tys A tb) {a n : Nat} {cA : ClassId} {f : Nat → Int32} {i x : Int32} (q0 t0 : Nat) (ha : ws[q0]? = some (a, .inl (cA, n, .inl f))) (ht : tys[t0]? = some (cA, .int)) (hin : vp_in i n) (hw : ws.set q0 (a, .inl (cA, n, .inl (upd f i.toNatClampNeg x))) = ws') (d : decode cc pc = .ok (.iastore, 1)) (q : Nat) (hq : pc + 1 = q) (kk : Gq p l e R s m args below meth c D A nL Q ws' cells slots q lv st) : Gq p l e R s m args below meth c D A nL Q ws cells slots pc lv (.int x :: .int i :: .ref a :: st) := by
  subst hq; subst hw
  exact fun H locs ls hP hD hS hl => va_iast C.1 C.2.1 C.2.2.2.2.2.1 hP hD hS q0 t0 ha ht hin d (fun H locs hP hD hS => kk H locs ls hP hD hS hl)
theorem g_zast (C : Cx ss p l s m args meth c cc nL Ts own D tys A tb) {a n : Nat} {cA : ClassId} {f : Nat → Int32} {i x : Int32} (q0 t0 : Nat) (ha : ws[q0]? = some (a, .inl (cA, n, .inl f))) (ht : tys[t0]? = some (cA, .boolean)) (hin : vp_in i n) (hx : vp_nar .boolean x = x) (hw : ws.set q0 (a, .inl (cA, n, .inl (upd f i.toNatClampNeg x))) = ws') (d : decode cc pc = .ok (.bastore, 1)) (q : Nat) (hq : pc + 1 = q) (kk : Gq p l e R s m args below meth c D A nL Q ws' cells slots q lv st) : Gq p l e R s m args below meth c D A nL Q ws cells slots pc lv (.int x :: .int i :: .ref a :: st) := by
  subst hq; subst hw
  exact fun H locs ls hP hD hS hl => va_zast C.1 C.2.1 C.2.2.2.2.2.1 hP hD hS q0 t0 ha ht hin d (fun H locs hP hD hS => by
    rw [hx] at hP hD
    exact kk H locs ls hP hD hS hl)
theorem g_last (C : Cx ss p l s m args meth c cc nL Ts own D tys A tb) {a n : Nat} {cA : ClassId} {f : Nat → Int64} {i : Int32} {x : Int64} (q0 t0 : Nat) (ha : ws[q0]? = some (a, .inl (cA, n, .inr (.inl f)))) (ht : tys[t0]? = some (cA, .long)) (hin : vp_in i n) (hw : ws.set q0 (a, .inl (cA, n, .inr (.inl (vp_updL f i.toNatClampNeg x)))) = ws') (d : decode cc pc = .ok (.lastore, 1)) (q : Nat) (hq : pc + 1 = q) (kk : Gq p l e R s m args below meth c D A nL Q ws' cells slots q lv st) : Gq p l e R s m args below meth c D A nL Q ws cells slots pc lv (.long x :: .int i :: .ref a :: st) := by
  subst hq; subst hw
  exact fun H locs ls hP hD hS hl => va_last C.1 C.2.1 C.2.2.2.2.2.1 hP hD hS q0 t0 ha ht hin d (fun H locs hP hD hS => kk H locs ls hP hD hS hl)
theorem g_alen (C : Cx ss p l s m args meth c cc nL Ts own D tys A tb) {a : Nat} {cA : ClassId} {x : vp_A} {ty : FieldType} {v : Int32} (q0 t0 : Nat) (ha : ws[q0]? = some (a, .inl (cA, x))) (ht : tys[t0]? = some (cA, ty)) (hv : Int32.ofNat x.1 = v) (d : decode cc pc = .ok (.arraylength, 1)) (q : Nat) (hq : pc + 1 = q) (kk : Gq p l e R s m args below meth c D A nL Q ws cells slots q lv (.int v :: st)) : Gq p l e R s m args below meth c D A nL Q ws cells slots pc lv (.ref a :: st) := by
  subst hq
  exact fun H locs ls hP hD hS hl => va_alen C.1 C.2.1 C.2.2.2.2.2.1 hP q0 t0 ha ht hv d (kk H locs ls hP hD hS hl)
theorem g_mmax (C : Cx ss p l s m args meth c cc nL Ts own D tys A tb) {i : Nat} {x y : Int32} (h1 : (Cond.methodLink own i Lib.Math.max.name).before args s = true) (h2 : (Cond.static Lib.Math.max.name).before args s = true) (h3 : (Cond.initialized "java/lang/Math").before args s = true) (h4 : (Cond.code Lib.Math.max.name Lib.Math.max.code 2 (some .int)).before args s = true) (hf : 1 ≤ R.frames) (hlo : (st.map fun v => v.category).sum + 13 ≤ R.locals) (hc : cells ≤ R.cells) (hs : slots ≤ R.slots) (d : decode cc pc = .ok (.invokestatic i, 3)) (q : Nat) (hq : pc + 3 = q) (kk : Gq p l e R s m args below meth c D A nL Q ws cells slots q lv (.int (if x < y then y else x) :: st)) : Gq p l e R s m args below meth c D A nL Q ws cells slots pc lv (.int y :: .int x :: st) := by
  subst hq
  exact fun H locs ls hP hD hS hl => va_mmax C.1 C.2.1 (C.2.2.1.trans hl.1.symm) C.2.2.2.1 h1 h2 h3 h4 hf hlo hc hs d (kk H locs ls hP hD hS hl)
theorem g_mmin (C : Cx ss p l s m args meth c cc nL Ts own D tys A tb) {i : Nat} {x y : Int32} (h1 : (Cond.methodLink own i Lib.Math.min.name).before args s = true) (h2 : (Cond.static Lib.Math.min.name).before args s = true) (h3 : (Cond.initialized "java/lang/Math").before args s = true) (h4 : (Cond.code Lib.Math.min.name Lib.Math.min.code 2 (some .int)).before args s = true) (hf : 1 ≤ R.frames) (hlo : (st.map fun v => v.category).sum + 13 ≤ R.locals) (hc : cells ≤ R.cells) (hs : slots ≤ R.slots) (d : decode cc pc = .ok (.invokestatic i, 3)) (q : Nat) (hq : pc + 3 = q) (kk : Gq p l e R s m args below meth c D A nL Q ws cells slots q lv (.int (if y < x then y else x) :: st)) : Gq p l e R s m args below meth c D A nL Q ws cells slots pc lv (.int y :: .int x :: st) := by
  subst hq
  exact fun H locs ls hP hD hS hl => va_mmin C.1 C.2.1 (C.2.2.1.trans hl.1.symm) C.2.2.2.1 h1 h2 h3 h4 hf hlo hc hs d (kk H locs ls hP hD hS hl)
theorem g_copy (C : Cx ss p l s m args meth c cc nL Ts own D tys A tb) {i : Nat} {a a0 n0 n1 : Nat} {c0 c1 : ClassId} {f g : Nat → Int32} {sp dp n : Int32} (h1 : (Cond.methodLink own i arraycopyName).before args s = true) (h2 : (Cond.native arraycopyName).before args s = true) (h3 : (Cond.static arraycopyName).before args s = true) (h4 : (Cond.initialized "java/lang/System").before args s = true) (q0 q1 t0 t1 : Nat) (ha0 : ws[q0]? = some (a0, .inl (c0, n0, .inl f))) (ha1 : ws[q1]? = some (a, .inl (c1, n1, .inl g))) (ht0 : tys[t0]? = some (c0, .int)) (ht1 : tys[t1]? = some (c1, .int)) (b1 : ¬ sp < 0) (b2 : ¬ dp < 0) (b3 : ¬ n < 0) (b4 : sp.toNatClampNeg + n.toNatClampNeg ≤ n0) (b5 : dp.toNatClampNeg + n.toNatClampNeg ≤ n1) (hf : 1 ≤ R.frames) (hlo : (st.map fun v => v.category).sum + (nativeFrameWords "java/lang/System" "arraycopy" 5 + 11) ≤ R.locals) (hw : ws.set q1 (a, .inl (c1, n1, .inl (va_cpy f g sp.toNatClampNeg dp.toNatClampNeg n.toNatClampNeg))) = ws') (d : decode cc pc = .ok (.invokestatic i, 3)) (q : Nat) (hq : pc + 3 = q) (kk : Gq p l e R s m args below meth c D A nL Q ws' cells slots q lv st) : Gq p l e R s m args below meth c D A nL Q ws cells slots pc lv (.int n :: .int dp :: .ref a :: .int sp :: .ref a0 :: st) := by
  subst hq; subst hw
  exact fun H locs ls hP hD hS hl => va_copyi C.1 C.2.1 (C.2.2.1.trans hl.1.symm) C.2.2.2.1 h1 h2 h3 h4 C.2.2.2.2.2.1 hP hD hS q0 q1 t0 t1 ha0 ha1 ht0 ht1 rfl b1 b2 b3 b4 b5 (fun _ _ => rfl) hf hlo d (fun H locs hP hD hS => kk H locs ls hP hD hS hl)
/-! rows: ends -/
theorem g_iret (C : Cx ss p l s m args meth c cc nL Ts own D tys A tb) {W0 : va_W} {Rr : Oc → Prop} {mc ms : Nat} {v : Int32} (hr : meth.sig.returnType = some .int) (hR : Rr (.inr (some (.int v), ws))) (h1 : cells ≤ mc) (h2 : slots ≤ ms) (d : decode cc pc = .ok (.ireturn, 1)) : Gq p l e R s m args below meth c D A nL (CQ below D W0 Rr args s mc ms A) ws cells slots pc lv [.int v] :=
  fun H locs ls hP hD hS hl => W.widen h1 h2 (vx_ret (W.iret C.1 C.2.1 hr (fun t ht hW => ⟨⟨_, _, hR, rfl, by rw [ht]; exact hP, hD⟩, hS.F ht⟩) hS.2.2 d C.2.2.2.2.2.2.2.1))
theorem g_zret (C : Cx ss p l s m args meth c cc nL Ts own D tys A tb) {W0 : va_W} {Rr : Oc → Prop} {mc ms : Nat} {v : Int32} (hr : meth.sig.returnType = some .boolean) (hv : v = 0 ∨ v = 1) (hR : Rr (.inr (some (.int v), ws))) (h1 : cells ≤ mc) (h2 : slots ≤ ms) (d : decode cc pc = .ok (.ireturn, 1)) : Gq p l e R s m args below meth c D A nL (CQ below D W0 Rr args s mc ms A) ws cells slots pc lv [.int v] :=
  fun H locs ls hP hD hS hl => W.widen h1 h2 (vx_ret (W.zret C.1 C.2.1 hr (by rcases hv with rfl | rfl <;> rfl) (fun t ht hW => ⟨⟨_, _, hR, rfl, by rw [ht]; exact hP, hD⟩, hS.F ht⟩) hS.2.2 d C.2.2.2.2.2.2.2.1))
theorem g_lret (C : Cx ss p l s m args meth c cc nL Ts own D tys A tb) {W0 : va_W} {Rr : Oc → Prop} {mc ms : Nat} {v : Int64} (hr : meth.sig.returnType = some .long) (hR : Rr (.inr (some (.long v), ws))) (h1 : cells ≤ mc) (h2 : slots ≤ ms) (d : decode cc pc = .ok (.lreturn, 1)) : Gq p l e R s m args below meth c D A nL (CQ below D W0 Rr args s mc ms A) ws cells slots pc lv [.long v] :=
  fun H locs ls hP hD hS hl => W.widen h1 h2 (vx_ret (W.lret C.1 C.2.1 hr (fun t ht hW => ⟨⟨_, _, hR, rfl, by rw [ht]; exact hP, hD⟩, hS.F ht⟩) hS.2.2 d C.2.2.2.2.2.2.2.1))
theorem g_dret (C : Cx ss p l s m args meth c cc nL Ts own D tys A tb) {W0 : va_W} {Rr : Oc → Prop} {mc ms : Nat} {v : UInt64} (hr : meth.sig.returnType = some .double) (hR : Rr (.inr (some (.double v), ws))) (h1 : cells ≤ mc) (h2 : slots ≤ ms) (d : decode cc pc = .ok (.dreturn, 1)) : Gq p l e R s m args below meth c D A nL (CQ below D W0 Rr args s mc ms A) ws cells slots pc lv [.double v] :=
  fun H locs ls hP hD hS hl => W.widen h1 h2 (vx_ret (W.dret C.1 C.2.1 hr (fun t ht hW => ⟨⟨_, _, hR, rfl, by rw [ht]; exact hP, hD⟩, hS.F ht⟩) hS.2.2 d C.2.2.2.2.2.2.2.1))
theorem g_vret (C : Cx ss p l s m args meth c cc nL Ts own D tys A tb) {W0 : va_W} {Rr : Oc → Prop} {mc ms : Nat} (hr : meth.sig.returnType = none) (hR : Rr (.inr (none, ws))) (h1 : cells ≤ mc) (h2 : slots ≤ ms) (d : decode cc pc = .ok (.return_, 1)) : Gq p l e R s m args below meth c D A nL (CQ below D W0 Rr args s mc ms A) ws cells slots pc lv [] :=
  fun H locs ls hP hD hS hl => W.widen h1 h2 (vx_ret (W.vret C.1 C.2.1 hr (fun t ht hW => ⟨⟨_, _, hR, rfl, by rw [ht]; exact hP, hD⟩, hS.F ht⟩) hS.2.2 d C.2.2.2.2.2.2.2.1))
def nms : List String := ["java/lang/RuntimeException", "java/lang/Exception"]
theorem g_throw (C : Cx ss p l s m args meth c cc nL Ts own D tys A []) {W0 : va_W} {Rr : Oc → Prop} {mc ms ik is ic n : Nat} {text : String} (hss : (own, is, text) ∈ ss.1) (hk : (Cond.classLink own ik (xn n)).before args s = true) (hini : (Cond.initialized (xn n)).before args s = true) (hat : ∀ w ∈ (vx_atS own ic (xn n) nms).filter goodWord, w.before args s = true) (h2 : ∀ w ∈ (vx_atS own ic (xn n) nms).filter (fun w => !goodWord w), w ∈ ev_w) (hgood : ∀ w ∈ Cond.classLink own ik (xn n) :: Cond.initialized (xn n) :: vx_atS own ic (xn n) nms, vx_ot w = true) (hfit : Bundle.fit (xn n) = true) (hR : Rr (.inl n)) (hW0 : ws = W0) (hRf : 5 < R.frames) (hRl : (st.map fun v => v.category).sum + 82 ≤ R.locals) (hc : cells + 1 ≤ R.cells) (hs : slots + 6 ≤ R.slots) (hc1 : cells + 1 ≤ mc) (hs1 : slots + 6 ≤ ms)
    (d0 : decode cc pc = .ok (.new ik, 3)) (d3 : decode cc (pc + 3) = .ok (.dup, 1)) (d4 : decode cc (pc + 4) = .ok (.ldc is, 2)) (d6 : decode cc (pc + 6) = .ok (.invokespecial ic, 3)) (d9 : decode cc (pc + 9) = .ok (.athrow, 1)) : Gq p l e R s m args below meth c D A nL (CQ below D W0 Rr args s mc ms A) ws cells slots pc lv st := by
  subst hW0
  intro H locs ls hP hD hS hl
  obtain ⟨sa, hsa⟩ := C.2.2.2.2.2.2.2.2.1.2.2.2.1 _ hss
  have E := C.2.2.2.2.2.2.2.2.1
  have hxl : ∀ x ∈ c.exceptionTable.toList, covers x (pc + 9) = false := by
    rw [C.2.2.2.2.2.2.2.2.2.1]
    intro x hx
    cases hx
  refine vx_throwS (names := nms) C.1 C.2.1 C.2.2.2.2.2.2.2.2.2.2 C.2.2.2.1 hfit (by decide +kernel) hk hini hsa (vx_hat (B := ev_w) hat h2 (fun w hw => (E.2.2.1 w hw).use (ev_on w hw))) hgood E.1 E.2.1 hS (hl.1.trans C.2.2.1.symm) d0 d3 d4 d6 d9 hxl hRf hRl hc hs C.2.2.2.2.2.2.2.1 ?_ hS.2.2 hc1 hs1
  intro t hal hsz hk
  refine ⟨⟨n, hR, rfl, ?_, hD⟩, Nat.le_trans hS.1 hsz, fun q h1 h2 => by rw [hk q (Nat.lt_of_lt_of_le h1 hS.1)]; exact hS.2.1 q h1 h2⟩
  rw [vpm] at hP ⊢
  exact fun q hq => (hP q hq).kept (hk q.1 (hP q hq).lt)
/-- not caught: it goes on -/
theorem g_xout (C : Cx ss p l s m args meth c cc nL Ts own D tys A []) {W0 : va_W} {Rr : Oc → Prop} {mc ms n : Nat} (hR : Rr (.inl n)) (hW0 : ws = W0) (hc1 : cells ≤ mc) (hs1 : slots ≤ ms) : Gx p l e R s m args below meth c D A nL (CQ below D W0 Rr args s mc ms A) ws cells slots pc lv n := by
  subst hW0
  intro H locs ls rest q ce hP hD hS hl hce hcv hcl
  have hxl : ∀ x ∈ c.exceptionTable.toList, covers x pc = false := by
    rw [C.2.2.2.2.2.2.2.2.2.1]
    intro x hx
    cases hx
  exact vx_out hxl C.2.2.2.2.2.2.2.1 hce hcv hcl (fun t ht hal => ⟨⟨n, hR, rfl, by rw [ht]; exact hP, hD⟩, hS.F ht⟩) hS.2.2 hc1 hs1
/-- caught by the row x of the table -/
theorem g_xcatch (C : Cx ss p l s m args meth c cc nL Ts own D tys A tb) {n : Nat} (pre : List ExceptionTableEntry) (x : ExceptionTableEntry) (suf : List ExceptionTableEntry) (hsplit : tb = pre ++ x :: suf) (hpass : ∀ z ∈ pre, z.catchType ≠ 0 ∧ ∃ nm : String, (Cond.classLink own z.catchType nm).before args s = true ∧ (xn n, nm) ∈ ev_n) (hx : covers x pc = true) (h0 : x.catchType ≠ 0) (hlink : (Cond.classLink own x.catchType (xn n)).before args s = true) (hcast : Cond.castable (xn n) (xn n) ∈ ev_w) (q : Nat) (hq : x.handlerPc = q)
    (kk : ∀ z, Gq p l e R s m args below meth c D A nL Q ws cells slots q lv [.ref z]) : Gx p l e R s m args below meth c D A nL Q ws cells slots pc lv n := by
  subst hq
  intro H locs ls rest z ce hP hD hS hl hce hcv hcl
  have E := C.2.2.2.2.2.2.2.2.1
  exact vx_catch C.2.2.2.1 pre x suf (by rw [C.2.2.2.2.2.2.2.2.2.1]; exact hsplit) (fun y hy => Or.inr ⟨(hpass y hy).1, by
    obtain ⟨nm, h1, h2⟩ := (hpass y hy).2
    exact ⟨nm, h1, E.2.2.2.2.1 _ h2⟩⟩) hx h0 hlink ((E.2.2.1 _ hcast).use rfl) hce hcv hcl (kk z H locs ls hP hD hS hl)
/-! rows: calls -/
theorem ct_blind {As : List Value} {W0 : va_W} {sz : Nat} : FrameBlind (va_Pc As (CtP ss D tys W0 sz)) := by
  intro a U g mk h
  obtain ⟨h1, h2, h3, h4, h5, h6⟩ := h
  exact ⟨h1, h2, h3, va_K.moved (u := U) (U := U.calling g mk a) (Vm.Alike.refl U.vm) h4, h5, Env9.same (u := U) (U := U.calling g mk a) rfl rfl h6⟩
theorem ct_pre (C : Cx ss p l s m args meth c cc nL Ts own D tys A tb) {As : List Value} {W0 : va_W} {H : Heap} {locs : List Loc} (hP : va_P D vwCl W0 H) (hD : va_D A W0) (hS : va_S A s.heap H locs) (hF : ∀ q, va_A W0 H.size q → A q) (U : State) (hU : U.heap = H) (hW : s.WarmedH U.vm) : va_Pc As (CtP ss D tys W0 H.size) As.toArray U :=
  ⟨rfl, by rw [hU], by rw [hU]; exact hP, va_K.moved hW.alike C.2.2.2.2.2.1, hD.weaken (fun _ _ _ _ => trivial), C.2.2.2.2.2.2.2.2.1.call hS hU hW hF⟩
theorem ct_free (C : Cx ss p l s m args meth c cc nL Ts own D tys A tb) {W0 : va_W} {H : Heap} {locs : List Loc} (hD : va_D A W0) (hS : va_S A s.heap H locs) : ∀ q, va_A W0 H.size q → A q := by
  intro q h
  rcases va_Am.mp h with ⟨e, he, rfl⟩ | h
  · exact (vdm.mp hD).2 e he
  · exact C.2.2.2.2.2.2.1 q (Nat.le_trans hS.1 h)
/-- behind any run of a callee's contract -/
theorem g_run (C : Cx ss p l s m args meth c cc nL Ts own D tys A tb) {rest : List Value} {W0 wl wr : va_W} {Rr : Oc → Prop} {mc ms c2 s2 : Nat} {a : Array Value} {H : Heap} {locs : List Loc} {ls : Array Slot}
    (hP : va_P D vwCl (wl ++ (W0 ++ wr)) H) (hD : va_D A (wl ++ (W0 ++ wr))) (hS : va_S A s.heap H locs) (hl : lv_has ls nL lv) (hc2 : cells + mc = c2) (hs2 : slots + ms = s2) (hq : pc + 3 = q)
    (hr : vx_Run p l e R s m args below meth c H locs cells slots mc ms (F0 m pc ls st) rest (CtR D Rr (va_A W0 H.size) a) (CtX D W0 Rr (va_A W0 H.size)) (va_A W0 H.size))
    (kx : ∀ n, Rr (.inl n) → Gx p l e R s m args below meth c D A nL Q (wl ++ (W0 ++ wr)) c2 s2 pc lv n)
    (kk : ∀ rv W1, Rr (.inr (rv, W1)) → Gq p l e R s m args below meth c D A nL Q (wl ++ (W1 ++ wr)) c2 s2 q lv (rv.toList ++ rest)) : W p l e R s m args below meth c H locs cells slots Q (F0 m pc ls st) := by
  subst hc2; subst hs2; subst hq
  have hF := ct_free C (vd_app.mp (vd_app.mp hD).2.1).1 hS
  intro T hT X
  rcases hr T hT X with ⟨v, st₀, t, T', L, h0, X', hL, e1, e2, ⟨⟨rv, W1, hRr, hv, hP1, hD1⟩, hFr⟩, hgo⟩ | ⟨z, st₀, t, T', L, E, ce, h0, X', hL, e1, e2, ⟨⟨n, hRr, rfl, hP1, hD1⟩, hFr⟩, hce, hcv, hcl, hst⟩
  · obtain ⟨k1, k2, k3⟩ := vx_keep h0 e1 hS (fun q _ h => hF q h) hF hL hFr
    cases hv
    obtain ⟨hP2, hD2⟩ := jn hP hD k2 hF (by rw [e1]; exact hP1) hD1
    obtain ⟨t2, a1, b1⟩ := kk v W1 hRr T'.heap (locs ++ L) ls hP2 hD2 k3 hl T' rfl X'
    exact ⟨t2, hgo t2 a1, b1⟩
  · obtain ⟨k1, k2, k3⟩ := vx_keep h0 e1 hS (fun q _ h => hF q h) hF hL hFr
    obtain ⟨hP2, hD2⟩ := jn hP hD k2 hF (by rw [e1]; exact hP1) hD1
    obtain ⟨t2, a1, b1⟩ := kx n hRr T'.heap (locs ++ L) ls rest z ce hP2 hD2 k3 hl (by rw [e1]; exact hce) hcv hcl T' rfl X'
    exact ⟨t2, hst.trans a1, b1⟩
theorem g_callV (C : Cx ss p l s m args meth c cc nL Ts own D tys A tb) {y : MethodName} {w0 : List Cond} {rm : Room} {bytes : ByteArray} {maxL n mc ms i b ci q0 : Nat} {ret : Option FieldType} {Cn : String} {As rest : List Value} {W0 wl wr : va_W} {Rr : Oc → Prop} {fs : List Value} {qc : vw_C} {c2 s2 : Nat}
    (hct : Ct ss l y w0 rm D tys (.ref b :: As) W0 Rr mc ms) (cf : CF y w0 rm bytes maxL ret n mc ms Cn) (hg : GoodIn Ts (wsV own i Cn y w0)) (hR : rm.frames + 1 ≤ R.frames ∧ 8 + (maxL + 11) + rm.locals ≤ R.locals)
    (he : W0[q0]? = some (b, .inr (ci, fs))) (hc : vwCl[ci]? = some qc) (hcn : qc.1 = Cn) (hws : ws = wl ++ (W0 ++ wr)) (hst : st = As.reverse ++ .ref b :: rest) (hn : As.length = n) (hrest : (rest.map fun v => v.category).sum ≤ 8) (hc2 : cells + mc = c2) (hs2 : slots + ms = s2) (hf : c2 ≤ R.cells ∧ s2 ≤ R.slots) (d : decode cc pc = .ok (.invokevirtual i, 3)) (q : Nat) (hq : pc + 3 = q)
    (kx : ∀ n, Rr (.inl n) → Gx p l e R s m args below meth c D A nL Q ws c2 s2 pc lv n)
    (kk : ∀ rv W1, Rr (.inr (rv, W1)) → Gq p l e R s m args below meth c D A nL Q (wl ++ (W1 ++ wr)) c2 s2 q lv (rv.toList ++ rest)) : Gq p l e R s m args below meth c D A nL Q ws cells slots pc lv st := by
  subst hws
  intro H locs ls hP hD hS hl
  obtain ⟨⟨ws', hw⟩, hrc, hrs, hy, hy1, hy2, hdesc⟩ := cf
  have hP0 : va_P D vwCl W0 H := (vp_app.mp (vp_app.mp hP).2).1
  have hD0 : va_D A W0 := (vd_app.mp (vd_app.mp hD).2.1).1
  have hF := ct_free C hD0 hS
  have cw := cwV (R := R) (s := s) (args := args) (own := own) (index := i) (C := Cn) (y := y) (ret := ret) (maxL := maxL) (bytes := bytes) (rm := rm) (mc := mc) (ms := ms) n C.2.2.2.2.1 hg hw hrc hrs ⟨hy, hy1, hy2, hdesc⟩ hR
  have hrcv := va_recv C.2.2.2.2.2.1 hP0 hc he
  rw [hcn] at hrcv
  exact g_run C hP hD hS hl hc2 hs2 hq (vx_runV (As := As) (rest := rest) ⟨C.1, C.2.1, C.2.2.1, C.2.2.2.1, C.2.2.2.2.1⟩ (hct H.size) cw ⟨ct_blind, hrcv, fun U hU hW => ct_pre C hP0 hD0 hS hF U hU hW⟩ rfl hn hl.1 hst (lv_room hrest) d ⟨by omega, by omega⟩) kx kk
theorem g_callS (C : Cx ss p l s m args meth c cc nL Ts own D tys A tb) {y : MethodName} {w0 : List Cond} {rm : Room} {bytes : ByteArray} {maxL n mc ms i : Nat} {ret : Option FieldType} {Cn : String} {As rest : List Value} {W0 wl wr : va_W} {Rr : Oc → Prop} {c2 s2 : Nat}
    (hct : Ct ss l y w0 rm D tys As W0 Rr mc ms) (cf : CF y w0 rm bytes maxL ret n mc ms Cn) (hg : GoodIn Ts (va_wsS own i y w0)) (hR : rm.frames + 1 ≤ R.frames ∧ 8 + (maxL + 11) + rm.locals ≤ R.locals)
    (hws : ws = wl ++ (W0 ++ wr)) (hst : st = As.reverse ++ rest) (hn : As.length = n) (hrest : (rest.map fun v => v.category).sum ≤ 8) (hc2 : cells + mc = c2) (hs2 : slots + ms = s2) (hf : c2 ≤ R.cells ∧ s2 ≤ R.slots) (d : decode cc pc = .ok (.invokestatic i, 3)) (q : Nat) (hq : pc + 3 = q)
    (kx : ∀ n, Rr (.inl n) → Gx p l e R s m args below meth c D A nL Q ws c2 s2 pc lv n)
    (kk : ∀ rv W1, Rr (.inr (rv, W1)) → Gq p l e R s m args below meth c D A nL Q (wl ++ (W1 ++ wr)) c2 s2 q lv (rv.toList ++ rest)) : Gq p l e R s m args below meth c D A nL Q ws cells slots pc lv st := by
  subst hws
  intro H locs ls hP hD hS hl
  obtain ⟨⟨ws', hw⟩, hrc, hrs, hy, hy1, hy2, hdesc⟩ := cf
  have hP0 : va_P D vwCl W0 H := (vp_app.mp (vp_app.mp hP).2).1
  have hD0 : va_D A W0 := (vd_app.mp (vd_app.mp hD).2.1).1
  have hF := ct_free C hD0 hS
  have cw := va_cwS (R := R) (s := s) (args := args) (own := own) (index := i) (y := y) (ret := ret) (maxL := maxL) (bytes := bytes) (rm := rm) (mc := mc) (ms := ms) n C.2.2.2.2.1 hg hw hrc hrs ⟨hy1, hy2, hdesc⟩ hR
  exact g_run C hP hD hS hl hc2 hs2 hq (vx_runS (As := As) (rest := rest) ⟨C.1, C.2.1, C.2.2.1, C.2.2.2.1, C.2.2.2.2.1⟩ (hct H.size) cw ⟨ct_blind, fun U hU hW => ct_pre C hP0 hD0 hS hF U hU hW⟩ rfl hn hl.1 hst (lv_room hrest) d ⟨by omega, by omega⟩) kx kk
/-- of a method with a table -/
def CFH (y : MethodName) (ws : List Cond) (rm : Room) (bytes : ByteArray) (maxL : Nat) (ret : Option FieldType) (hh : List (Nat × Nat × Nat × Nat)) (n mc ms : Nat) : Prop :=
  (∃ ws', ws = Cond.codeWith y bytes maxL ret hh :: ws') ∧ rm.cells = mc ∧ rm.slots = ms ∧ y.cls ≠ "java/lang/invoke/MethodHandle" ∧ y.cls ≠ "java/lang/invoke/VarHandle" ∧ (parseMethodDescriptor y.desc).map (fun d => d.parameters.length) = some n
theorem g_callSH (C : Cx ss p l s m args meth c cc nL Ts own D tys A tb) {y : MethodName} {w0 : List Cond} {rm : Room} {bytes : ByteArray} {maxL n mc ms i : Nat} {ret : Option FieldType} {hh : List (Nat × Nat × Nat × Nat)} {As rest : List Value} {W0 wl wr : va_W} {Rr : Oc → Prop} {c2 s2 : Nat}
    (hct : Ct ss l y w0 rm D tys As W0 Rr mc ms) (cf : CFH y w0 rm bytes maxL ret hh n mc ms) (hg : GoodIn Ts (va_wsS own i y w0)) (hR : rm.frames + 1 ≤ R.frames ∧ 8 + (maxL + 11) + rm.locals ≤ R.locals)
    (hws : ws = wl ++ (W0 ++ wr)) (hst : st = As.reverse ++ rest) (hn : As.length = n) (hrest : (rest.map fun v => v.category).sum ≤ 8) (hc2 : cells + mc = c2) (hs2 : slots + ms = s2) (hf : c2 ≤ R.cells ∧ s2 ≤ R.slots) (d : decode cc pc = .ok (.invokestatic i, 3)) (q : Nat) (hq : pc + 3 = q)
    (kx : ∀ n, Rr (.inl n) → Gx p l e R s m args below meth c D A nL Q ws c2 s2 pc lv n)
    (kk : ∀ rv W1, Rr (.inr (rv, W1)) → Gq p l e R s m args below meth c D A nL Q (wl ++ (W1 ++ wr)) c2 s2 q lv (rv.toList ++ rest)) : Gq p l e R s m args below meth c D A nL Q ws cells slots pc lv st := by
  subst hws
  intro H locs ls hP hD hS hl
  obtain ⟨⟨ws', hw⟩, hrc, hrs, hy1, hy2, hdesc⟩ := cf
  have hP0 : va_P D vwCl W0 H := (vp_app.mp (vp_app.mp hP).2).1
  have hD0 : va_D A W0 := (vd_app.mp (vd_app.mp hD).2.1).1
  have hF := ct_free C hD0 hS
  have cw := vx_cwSW (R := R) (s := s) (args := args) (own := own) (index := i) (y := y) (ret := ret) (hh := hh) (maxL := maxL) (bytes := bytes) (rm := rm) (mc := mc) (ms := ms) n C.2.2.2.2.1 hg hw hrc hrs ⟨hy1, hy2, hdesc⟩ hR
  exact g_run C hP hD hS hl hc2 hs2 hq (vx_runSX (As := As) (rest := rest) ⟨C.1, C.2.1, C.2.2.1, C.2.2.2.1, C.2.2.2.2.1⟩ (hct H.size) cw ⟨ct_blind, fun U hU hW => ct_pre C hP0 hD0 hS hF U hU hW⟩ rfl hn hl.1 hst (lv_room hrest) d ⟨by omega, by omega⟩) kx kk
theorem g_callV1 (C : Cx ss p l s m args meth c cc nL Ts own D tys A tb) {y : MethodName} {w0 : List Cond} {rm : Room} {bytes : ByteArray} {maxL n mc ms i b ci q0 : Nat} {ret : Option FieldType} {Cn : String} {As rest : List Value} {W0 wl wr : va_W} {rv : Option Value} {W1 ws2 : va_W} {st2 : List Value} {fs : List Value} {qc : vw_C} {c2 s2 : Nat}
    (hct : Ct ss l y w0 rm D tys (.ref b :: As) W0 (fun o => o = .inr (rv, W1)) mc ms) (cf : CF y w0 rm bytes maxL ret n mc ms Cn) (hg : GoodIn Ts (wsV own i Cn y w0)) (hR : rm.frames + 1 ≤ R.frames ∧ 8 + (maxL + 11) + rm.locals ≤ R.locals)
    (he : W0[q0]? = some (b, .inr (ci, fs))) (hc : vwCl[ci]? = some qc) (hcn : qc.1 = Cn) (hws : ws = wl ++ (W0 ++ wr)) (hst : st = As.reverse ++ .ref b :: rest) (hn : As.length = n) (hrest : (rest.map fun v => v.category).sum ≤ 8) (hc2 : cells + mc = c2) (hs2 : slots + ms = s2) (hf : c2 ≤ R.cells ∧ s2 ≤ R.slots) (d : decode cc pc = .ok (.invokevirtual i, 3)) (q : Nat) (hq : pc + 3 = q)
    (hw2 : wl ++ (W1 ++ wr) = ws2) (hs3 : rv.toList ++ rest = st2) (kk : Gq p l e R s m args below meth c D A nL Q ws2 c2 s2 q lv st2) : Gq p l e R s m args below meth c D A nL Q ws cells slots pc lv st := by
  subst hw2; subst hs3
  exact g_callV C hct cf hg hR he hc hcn hws hst hn hrest hc2 hs2 hf d q hq (fun _ h => by cases h) (fun rv W1 h => by cases h; exact kk)
theorem g_callVx (C : Cx ss p l s m args meth c cc nL Ts own D tys A tb) {y : MethodName} {w0 : List Cond} {rm : Room} {bytes : ByteArray} {maxL n mc ms i b ci q0 : Nat} {ret : Option FieldType} {Cn : String} {As rest : List Value} {W0 wl wr : va_W} {ne : Nat} {fs : List Value} {qc : vw_C} {c2 s2 : Nat}
    (hct : Ct ss l y w0 rm D tys (.ref b :: As) W0 (fun o => o = .inl ne) mc ms) (cf : CF y w0 rm bytes maxL ret n mc ms Cn) (hg : GoodIn Ts (wsV own i Cn y w0)) (hR : rm.frames + 1 ≤ R.frames ∧ 8 + (maxL + 11) + rm.locals ≤ R.locals)
    (he : W0[q0]? = some (b, .inr (ci, fs))) (hc : vwCl[ci]? = some qc) (hcn : qc.1 = Cn) (hws : ws = wl ++ (W0 ++ wr)) (hst : st = As.reverse ++ .ref b :: rest) (hn : As.length = n) (hrest : (rest.map fun v => v.category).sum ≤ 8) (hc2 : cells + mc = c2) (hs2 : slots + ms = s2) (hf : c2 ≤ R.cells ∧ s2 ≤ R.slots) (d : decode cc pc = .ok (.invokevirtual i, 3)) (q : Nat) (hq : pc + 3 = q)
    (kx : Gx p l e R s m args below meth c D A nL Q ws c2 s2 pc lv ne) : Gq p l e R s m args below meth c D A nL Q ws cells slots pc lv st := by
  exact g_callV C hct cf hg hR he hc hcn hws hst hn hrest hc2 hs2 hf d q hq (fun n h => by cases h; exact kx) (fun _ _ h => by cases h)
theorem g_callS1 (C : Cx ss p l s m args meth c cc nL Ts own D tys A tb) {y : MethodName} {w0 : List Cond} {rm : Room} {bytes : ByteArray} {maxL n mc ms i : Nat} {ret : Option FieldType} {Cn : String} {As rest : List Value} {W0 wl wr : va_W} {rv : Option Value} {W1 ws2 : va_W} {st2 : List Value} {c2 s2 : Nat}
    (hct : Ct ss l y w0 rm D tys As W0 (fun o => o = .inr (rv, W1)) mc ms) (cf : CF y w0 rm bytes maxL ret n mc ms Cn) (hg : GoodIn Ts (va_wsS own i y w0)) (hR : rm.frames + 1 ≤ R.frames ∧ 8 + (maxL + 11) + rm.locals ≤ R.locals)
    (hws : ws = wl ++ (W0 ++ wr)) (hst : st = As.reverse ++ rest) (hn : As.length = n) (hrest : (rest.map fun v => v.category).sum ≤ 8) (hc2 : cells + mc = c2) (hs2 : slots + ms = s2) (hf : c2 ≤ R.cells ∧ s2 ≤ R.slots) (d : decode cc pc = .ok (.invokestatic i, 3)) (q : Nat) (hq : pc + 3 = q)
    (hw2 : wl ++ (W1 ++ wr) = ws2) (hs3 : rv.toList ++ rest = st2) (kk : Gq p l e R s m args below meth c D A nL Q ws2 c2 s2 q lv st2) : Gq p l e R s m args below meth c D A nL Q ws cells slots pc lv st := by
  subst hw2; subst hs3
  exact g_callS C hct cf hg hR hws hst hn hrest hc2 hs2 hf d q hq (fun _ h => by cases h) (fun rv W1 h => by cases h; exact kk)
theorem g_callSx (C : Cx ss p l s m args meth c cc nL Ts own D tys A tb) {y : MethodName} {w0 : List Cond} {rm : Room} {bytes : ByteArray} {maxL n mc ms i : Nat} {ret : Option FieldType} {Cn : String} {As rest : List Value} {W0 wl wr : va_W} {ne : Nat} {c2 s2 : Nat}
    (hct : Ct ss l y w0 rm D tys As W0 (fun o => o = .inl ne) mc ms) (cf : CF y w0 rm bytes maxL ret n mc ms Cn) (hg : GoodIn Ts (va_wsS own i y w0)) (hR : rm.frames + 1 ≤ R.frames ∧ 8 + (maxL + 11) + rm.locals ≤ R.locals)
    (hws : ws = wl ++ (W0 ++ wr)) (hst : st = As.reverse ++ rest) (hn : As.length = n) (hrest : (rest.map fun v => v.category).sum ≤ 8) (hc2 : cells + mc = c2) (hs2 : slots + ms = s2) (hf : c2 ≤ R.cells ∧ s2 ≤ R.slots) (d : decode cc pc = .ok (.invokestatic i, 3)) (q : Nat) (hq : pc + 3 = q)
    (kx : Gx p l e R s m args below meth c D A nL Q ws c2 s2 pc lv ne) : Gq p l e R s m args below meth c D A nL Q ws cells slots pc lv st := by
  exact g_callS C hct cf hg hR hws hst hn hrest hc2 hs2 hf d q hq (fun n h => by cases h; exact kx) (fun _ _ h => by cases h)
theorem g_callSH1 (C : Cx ss p l s m args meth c cc nL Ts own D tys A tb) {y : MethodName} {w0 : List Cond} {rm : Room} {bytes : ByteArray} {maxL n mc ms i : Nat} {ret : Option FieldType} {hh : List (Nat × Nat × Nat × Nat)} {As rest : List Value} {W0 wl wr : va_W} {rv : Option Value} {W1 ws2 : va_W} {st2 : List Value} {c2 s2 : Nat}
    (hct : Ct ss l y w0 rm D tys As W0 (fun o => o = .inr (rv, W1)) mc ms) (cf : CFH y w0 rm bytes maxL ret hh n mc ms) (hg : GoodIn Ts (va_wsS own i y w0)) (hR : rm.frames + 1 ≤ R.frames ∧ 8 + (maxL + 11) + rm.locals ≤ R.locals)
    (hws : ws = wl ++ (W0 ++ wr)) (hst : st = As.reverse ++ rest) (hn : As.length = n) (hrest : (rest.map fun v => v.category).sum ≤ 8) (hc2 : cells + mc = c2) (hs2 : slots + ms = s2) (hf : c2 ≤ R.cells ∧ s2 ≤ R.slots) (d : decode cc pc = .ok (.invokestatic i, 3)) (q : Nat) (hq : pc + 3 = q)
    (hw2 : wl ++ (W1 ++ wr) = ws2) (hs3 : rv.toList ++ rest = st2) (kk : Gq p l e R s m args below meth c D A nL Q ws2 c2 s2 q lv st2) : Gq p l e R s m args below meth c D A nL Q ws cells slots pc lv st := by
  subst hw2; subst hs3
  exact g_callSH C hct cf hg hR hws hst hn hrest hc2 hs2 hf d q hq (fun _ h => by cases h) (fun rv W1 h => by cases h; exact kk)
theorem g_callSHx (C : Cx ss p l s m args meth c cc nL Ts own D tys A tb) {y : MethodName} {w0 : List Cond} {rm : Room} {bytes : ByteArray} {maxL n mc ms i : Nat} {ret : Option FieldType} {hh : List (Nat × Nat × Nat × Nat)} {As rest : List Value} {W0 wl wr : va_W} {ne : Nat} {c2 s2 : Nat}
    (hct : Ct ss l y w0 rm D tys As W0 (fun o => o = .inl ne) mc ms) (cf : CFH y w0 rm bytes maxL ret hh n mc ms) (hg : GoodIn Ts (va_wsS own i y w0)) (hR : rm.frames + 1 ≤ R.frames ∧ 8 + (maxL + 11) + rm.locals ≤ R.locals)
    (hws : ws = wl ++ (W0 ++ wr)) (hst : st = As.reverse ++ rest) (hn : As.length = n) (hrest : (rest.map fun v => v.category).sum ≤ 8) (hc2 : cells + mc = c2) (hs2 : slots + ms = s2) (hf : c2 ≤ R.cells ∧ s2 ≤ R.slots) (d : decode cc pc = .ok (.invokestatic i, 3)) (q : Nat) (hq : pc + 3 = q)
    (kx : Gx p l e R s m args below meth c D A nL Q ws c2 s2 pc lv ne) : Gq p l e R s m args below meth c D A nL Q ws cells slots pc lv st := by
  exact g_callSH C hct cf hg hR hws hst hn hrest hc2 hs2 hf d q hq (fun n h => by cases h; exact kx) (fun _ _ h => by cases h)
end GB
end
section
/-! BASE 2: the shapes of the objects, reads and writes, the functions' joints -/
abbrev S2 : Type := Nat → Nat → Int32
abbrev ty3 (cyI cyZ cyJ : ClassId) : List (ClassId × FieldType) := [(cyI, .int), (cyZ, .boolean), (cyJ, .array .int)]
def up2 (b : S2) (k j : Nat) (v : Int32) : S2 := fun k' => bif Nat.beq k' k then upd (b k) j v else b k'
def wB (cyI : ClassId) (h : Nat → Nat) (b : S2) : va_W := [(h 0, .inr (0, [.int (b 0 0), .int (b 0 1), .int (b 0 2), .int (b 0 3), .ref (h 1), .ref (h 2), .ref (h 3), .ref (h 4), .ref (h 5), .ref (h 6), .ref (h 7), .int (b 0 4), .ref (h 8), .ref (h 9), .ref (h 10)])), (h 1, .inl (cyI, 24, .inl (b 1))), (h 2, .inl (cyI, 24, .inl (b 2))), (h 3, .inl (cyI, 24, .inl (b 3))), (h 4, .inl (cyI, 24, .inl (b 4))), (h 5, .inl (cyI, 24, .inl (b 5))), (h 6, .inl (cyI, 24, .inl (b 6))), (h 7, .inl (cyI, 24, .inl (b 7))), (h 8, .inl (cyI, 8, .inl (b 8))), (h 9, .inl (cyI, 8, .inl (b 9))), (h 10, .inl (cyI, 8, .inl (b 10)))]
def wC (g : Nat) (h1 h2 : Nat → Nat) : va_W := [(g, .inr (1, [.ref (h1 0), .ref (h2 0)]))]
def wA (cyI : ClassId) (z n : Nat) (f : Nat → Int32) : va_W := [(z, .inl (cyI, n, .inl f))]
def stA (b : S2) (k n : Nat) (i v : Int32) : Option S2 := if i < 0 ∨ n ≤ i.toNatClampNeg then none else some (up2 b k i.toNatClampNeg v)
def stF (f : Nat → Int32) (n : Nat) (i v : Int32) : Option (Nat → Int32) := if i < 0 ∨ n ≤ i.toNatClampNeg then none else some (upd f i.toNatClampNeg v)
def bl (v : Int32) : Option Int32 := if v = 0 ∨ v = 1 then some v else none
def nn (v : UInt64) : Option UInt64 := if v &&& 0x7fffffffffffffff ≤ 0x7ff0000000000000 then some v else none
theorem stA_in {b u : S2} {k n : Nat} {i v : Int32} (h : stA b k n i v = some u) : vp_in i n := by
  unfold stA at h; split at h
  · cases h
  · assumption
theorem stA_eq {b u : S2} {k n : Nat} {i v : Int32} (h : stA b k n i v = some u) : u = up2 b k i.toNatClampNeg v := by
  unfold stA at h; split at h
  · cases h
  · exact (Option.some.inj h).symm
theorem stF_in {f u : Nat → Int32} {n : Nat} {i v : Int32} (h : stF f n i v = some u) : vp_in i n := by
  unfold stF at h; split at h
  · cases h
  · assumption
theorem stF_eq {f u : Nat → Int32} {n : Nat} {i v : Int32} (h : stF f n i v = some u) : u = upd f i.toNatClampNeg v := by
  unfold stF at h; split at h
  · cases h
  · exact (Option.some.inj h).symm
theorem bl_s {v x : Int32} (h : bl v = some x) : v = 0 ∨ v = 1 := by
  unfold bl at h; split at h
  · assumption
  · cases h
theorem bl_n {v x : Int32} (h : bl v = some x) : vp_nar .boolean v = v := by
  rcases bl_s h with rfl | rfl <;> rfl
theorem nn_s {v x : UInt64} (h : nn v = some x) : vf_n64 v := by
  unfold nn at h; split at h
  · assumption
  · cases h
theorem ifp {c : Prop} [Decidable c] {α : Type} {a b r : α} (h : c) (hf : (if c then a else b) = r) : a = r := by rwa [if_pos h] at hf
theorem ifn {c : Prop} [Decidable c] {α : Type} {a b r : α} (h : ¬ c) (hf : (if c then a else b) = r) : b = r := by rwa [if_neg h] at hf
theorem g_lve {p : Program} {l : Launch} {e : Env} {R : Room} {s : State} {m : MethodId} {args : Array Value} {below : List Frame} {meth : Method} {c : Code} {Q : State → Prop} {D : va_G} {A : Nat → Prop} {nL : Nat} {ws : va_W} {cells slots pc : Nat} {lv lv' : List (Nat × Value)} {st : List Value} (h : lv = lv') (kk : Gq p l e R s m args below meth c D A nL Q ws cells slots pc lv' st) : Gq p l e R s m args below meth c D A nL Q ws cells slots pc lv st := h ▸ kk
theorem g_setQ {p : Program} {l : Launch} {e : Env} {R : Room} {s : State} {m : MethodId} {args : Array Value} {below : List Frame} {meth : Method} {c : Code} {Q : State → Prop} {D : va_G} {A : Nat → Prop} {nL : Nat} {ws : va_W} {cells slots pc : Nat} {lv : List (Nat × Value)} {st : List Value} (k : ∀ Q' : State → Prop, Q' = Q → Gq p l e R s m args below meth c D A nL Q' ws cells slots pc lv st) : Gq p l e R s m args below meth c D A nL Q ws cells slots pc lv st := k Q rfl
theorem g_Q {p : Program} {l : Launch} {e : Env} {R : Room} {s : State} {m : MethodId} {args : Array Value} {below : List Frame} {meth : Method} {c : Code} {Q Q' : State → Prop} {D : va_G} {A : Nat → Prop} {nL : Nat} {ws : va_W} {cells slots pc : Nat} {lv : List (Nat × Value)} {st : List Value} (h : Q' = Q) (k : Gq p l e R s m args below meth c D A nL Q ws cells slots pc lv st) : Gq p l e R s m args below meth c D A nL Q' ws cells slots pc lv st := h ▸ k
theorem g_xQ {p : Program} {l : Launch} {e : Env} {R : Room} {s : State} {m : MethodId} {args : Array Value} {below : List Frame} {meth : Method} {c : Code} {Q Q' : State → Prop} {D : va_G} {A : Nat → Prop} {nL : Nat} {ws : va_W} {cells slots pc : Nat} {lv : List (Nat × Value)} {n : Nat} (h : Q' = Q) (k : Gx p l e R s m args below meth c D A nL Q ws cells slots pc lv n) : Gx p l e R s m args below meth c D A nL Q' ws cells slots pc lv n := h ▸ k
def bd0 {γ : Type} (o : Option Unit) (K : (Option γ)) : Option γ := match o with
  | none => none
  | some _ => K
theorem bd0_s {γ : Type} {o : Option Unit} {K : (Option γ)} {r : γ} (h : bd0 o K = some r) : o = some () ∧ K = some r := by
  match o, h with
  | some (), h => exact ⟨rfl, h⟩
def bx0 {γ : Type} (o : Option (Nat ⊕ Unit)) (K : (Option (Nat ⊕ γ))) : Option (Nat ⊕ γ) := match o with
  | none => none
  | some (.inl n) => some (.inl n)
  | some (.inr _) => K
theorem bx0_s {γ : Type} {o : Option (Nat ⊕ Unit)} {K : (Option (Nat ⊕ γ))} {r : Nat ⊕ γ} (h : bx0 o K = some r) : (∃ n, o = some (.inl n) ∧ r = .inl n) ∨ (o = some (.inr ()) ∧ K = some r) := by
  match o, h with
  | some (.inl n), h => exact Or.inl ⟨n, rfl, (Option.some.inj h).symm⟩
  | some (.inr ()), h => exact Or.inr ⟨rfl, h⟩
def bc0 {γ : Type} (o : Option (Nat ⊕ Unit)) (X : Nat → Option γ) (K : (Option γ)) : Option γ := match o with
  | none => none
  | some (.inl n) => X n
  | some (.inr _) => K
theorem bc0_s {γ : Type} {o : Option (Nat ⊕ Unit)} {X : Nat → Option γ} {K : (Option γ)} {r : γ} (h : bc0 o X K = some r) : (∃ n, o = some (.inl n) ∧ X n = some r) ∨ (o = some (.inr ()) ∧ K = some r) := by
  match o, h with
  | some (.inl n), h => exact Or.inl ⟨n, rfl, h⟩
  | some (.inr ()), h => exact Or.inr ⟨rfl, h⟩
def bd1 {α0 : Type} {γ : Type} (o : Option α0) (K : α0 → Option γ) : Option γ := match o with
  | none => none
  | some x0 => K x0
theorem bd1_s {α0 : Type} {γ : Type} {o : Option α0} {K : (α0 → Option γ)} {r : γ} (h : bd1 o K = some r) : ∃ (x0 : α0), o = some x0 ∧ K x0 = some r := by
  match o, h with
  | some x0, h => exact ⟨x0, rfl, h⟩
def bx1 {α0 : Type} {γ : Type} (o : Option (Nat ⊕ α0)) (K : (α0 → Option (Nat ⊕ γ))) : Option (Nat ⊕ γ) := match o with
  | none => none
  | some (.inl n) => some (.inl n)
  | some (.inr x0) => K x0
theorem bx1_s {α0 : Type} {γ : Type} {o : Option (Nat ⊕ α0)} {K : (α0 → Option (Nat ⊕ γ))} {r : Nat ⊕ γ} (h : bx1 o K = some r) : (∃ n, o = some (.inl n) ∧ r = .inl n) ∨ (∃ (x0 : α0), o = some (.inr x0) ∧ K x0 = some r) := by
  match o, h with
  | some (.inl n), h => exact Or.inl ⟨n, rfl, (Option.some.inj h).symm⟩
  | some (.inr x0), h => exact Or.inr ⟨x0, rfl, h⟩
def bc1 {α0 : Type} {γ : Type} (o : Option (Nat ⊕ α0)) (X : Nat → Option γ) (K : (α0 → Option γ)) : Option γ := match o with
  | none => none
  | some (.inl n) => X n
  | some (.inr x0) => K x0
theorem bc1_s {α0 : Type} {γ : Type} {o : Option (Nat ⊕ α0)} {X : Nat → Option γ} {K : (α0 → Option γ)} {r : γ} (h : bc1 o X K = some r) : (∃ n, o = some (.inl n) ∧ X n = some r) ∨ (∃ (x0 : α0), o = some (.inr x0) ∧ K x0 = some r) := by
  match o, h with
  | some (.inl n), h => exact Or.inl ⟨n, rfl, h⟩
  | some (.inr x0), h => exact Or.inr ⟨x0, rfl, h⟩
def bd2 {α0 : Type} {α1 : Type} {γ : Type} (o : Option (α0 × α1)) (K : (α0 → α1 → Option γ)) : Option γ := match o with
  | none => none
  | some (x0, x1) => K x0 x1
theorem bd2_s {α0 : Type} {α1 : Type} {γ : Type} {o : Option (α0 × α1)} {K : (α0 → α1 → Option γ)} {r : γ} (h : bd2 o K = some r) : ∃ (x0 : α0) (x1 : α1), o = some (x0, x1) ∧ K x0 x1 = some r := by
  match o, h with
  | some (x0, x1), h => exact ⟨x0, x1, rfl, h⟩
def bx2 {α0 : Type} {α1 : Type} {γ : Type} (o : Option (Nat ⊕ (α0 × α1))) (K : (α0 → α1 → Option (Nat ⊕ γ))) : Option (Nat ⊕ γ) := match o with
  | none => none
  | some (.inl n) => some (.inl n)
  | some (.inr (x0, x1)) => K x0 x1
theorem bx2_s {α0 : Type} {α1 : Type} {γ : Type} {o : Option (Nat ⊕ (α0 × α1))} {K : (α0 → α1 → Option (Nat ⊕ γ))} {r : Nat ⊕ γ} (h : bx2 o K = some r) : (∃ n, o = some (.inl n) ∧ r = .inl n) ∨ (∃ (x0 : α0) (x1 : α1), o = some (.inr (x0, x1)) ∧ K x0 x1 = some r) := by
  match o, h with
  | some (.inl n), h => exact Or.inl ⟨n, rfl, (Option.some.inj h).symm⟩
  | some (.inr (x0, x1)), h => exact Or.inr ⟨x0, x1, rfl, h⟩
def bc2 {α0 : Type} {α1 : Type} {γ : Type} (o : Option (Nat ⊕ (α0 × α1))) (X : Nat → Option γ) (K : (α0 → α1 → Option γ)) : Option γ := match o with
  | none => none
  | some (.inl n) => X n
  | some (.inr (x0, x1)) => K x0 x1
theorem bc2_s {α0 : Type} {α1 : Type} {γ : Type} {o : Option (Nat ⊕ (α0 × α1))} {X : Nat → Option γ} {K : (α0 → α1 → Option γ)} {r : γ} (h : bc2 o X K = some r) : (∃ n, o = some (.inl n) ∧ X n = some r) ∨ (∃ (x0 : α0) (x1 : α1), o = some (.inr (x0, x1)) ∧ K x0 x1 = some r) := by
  match o, h with
  | some (.inl n), h => exact Or.inl ⟨n, rfl, h⟩
  | some (.inr (x0, x1)), h => exact Or.inr ⟨x0, x1, rfl, h⟩
def bd3 {α0 : Type} {α1 : Type} {α2 : Type} {γ : Type} (o : Option (α0 × α1 × α2)) (K : (α0 → α1 → α2 → Option γ)) : Option γ := match o with
  | none => none
  | some (x0, x1, x2) => K x0 x1 x2
theorem bd3_s {α0 : Type} {α1 : Type} {α2 : Type} {γ : Type} {o : Option (α0 × α1 × α2)} {K : (α0 → α1 → α2 → Option γ)} {r : γ} (h : bd3 o K = some r) : ∃ (x0 : α0) (x1 : α1) (x2 : α2), o = some (x0, x1, x2) ∧ K x0 x1 x2 = some r := by
  match o, h with
  | some (x0, x1, x2), h => exact ⟨x0, x1, x2, rfl, h⟩
def bx3 {α0 : Type} {α1 : Type} {α2 : Type} {γ : Type} (o : Option (Nat ⊕ (α0 × α1 × α2))) (K : (α0 → α1 → α2 → Option (Nat ⊕ γ))) : Option (Nat ⊕ γ) := match o with
  | none => none
  | some (.inl n) => some (.inl n)
  | some (.inr (x0, x1, x2)) => K x0 x1 x2
theorem bx3_s {α0 : Type} {α1 : Type} {α2 : Type} {γ : Type} {o : Option (Nat ⊕ (α0 × α1 × α2))} {K : (α0 → α1 → α2 → Option (Nat ⊕ γ))} {r : Nat ⊕ γ} (h : bx3 o K = some r) : (∃ n, o = some (.inl n) ∧ r = .inl n) ∨ (∃ (x0 : α0) (x1 : α1) (x2 : α2), o = some (.inr (x0, x1, x2)) ∧ K x0 x1 x2 = some r) := by
  match o, h with
  | some (.inl n), h => exact Or.inl ⟨n, rfl, (Option.some.inj h).symm⟩
  | some (.inr (x0, x1, x2)), h => exact Or.inr ⟨x0, x1, x2, rfl, h⟩
def bc3 {α0 : Type} {α1 : Type} {α2 : Type} {γ : Type} (o : Option (Nat ⊕ (α0 × α1 × α2))) (X : Nat → Option γ) (K : (α0 → α1 → α2 → Option γ)) : Option γ := match o with
  | none => none
  | some (.inl n) => X n
  | some (.inr (x0, x1, x2)) => K x0 x1 x2
theorem bc3_s {α0 : Type} {α1 : Type} {α2 : Type} {γ : Type} {o : Option (Nat ⊕ (α0 × α1 × α2))} {X : Nat → Option γ} {K : (α0 → α1 → α2 → Option γ)} {r : γ} (h : bc3 o X K = some r) : (∃ n, o = some (.inl n) ∧ X n = some r) ∨ (∃ (x0 : α0) (x1 : α1) (x2 : α2), o = some (.inr (x0, x1, x2)) ∧ K x0 x1 x2 = some r) := by
  match o, h with
  | some (.inl n), h => exact Or.inl ⟨n, rfl, h⟩
  | some (.inr (x0, x1, x2)), h => exact Or.inr ⟨x0, x1, x2, rfl, h⟩
def bd4 {α0 : Type} {α1 : Type} {α2 : Type} {α3 : Type} {γ : Type} (o : Option (α0 × α1 × α2 × α3)) (K : (α0 → α1 → α2 → α3 → Option γ)) : Option γ := match o with
  | none => none
  | some (x0, x1, x2, x3) => K x0 x1 x2 x3
theorem bd4_s {α0 : Type} {α1 : Type} {α2 : Type} {α3 : Type} {γ : Type} {o : Option (α0 × α1 × α2 × α3)} {K : (α0 → α1 → α2 → α3 → Option γ)} {r : γ} (h : bd4 o K = some r) : ∃ (x0 : α0) (x1 : α1) (x2 : α2) (x3 : α3), o = some (x0, x1, x2, x3) ∧ K x0 x1 x2 x3 = some r := by
  match o, h with
  | some (x0, x1, x2, x3), h => exact ⟨x0, x1, x2, x3, rfl, h⟩
def bx4 {α0 : Type} {α1 : Type} {α2 : Type} {α3 : Type} {γ : Type} (o : Option (Nat ⊕ (α0 × α1 × α2 × α3))) (K : (α0 → α1 → α2 → α3 → Option (Nat ⊕ γ))) : Option (Nat ⊕ γ) := match o with
  | none => none
  | some (.inl n) => some (.inl n)
  | some (.inr (x0, x1, x2, x3)) => K x0 x1 x2 x3
theorem bx4_s {α0 : Type} {α1 : Type} {α2 : Type} {α3 : Type} {γ : Type} {o : Option (Nat ⊕ (α0 × α1 × α2 × α3))} {K : (α0 → α1 → α2 → α3 → Option (Nat ⊕ γ))} {r : Nat ⊕ γ} (h : bx4 o K = some r) : (∃ n, o = some (.inl n) ∧ r = .inl n) ∨ (∃ (x0 : α0) (x1 : α1) (x2 : α2) (x3 : α3), o = some (.inr (x0, x1, x2, x3)) ∧ K x0 x1 x2 x3 = some r) := by
  match o, h with
  | some (.inl n), h => exact Or.inl ⟨n, rfl, (Option.some.inj h).symm⟩
  | some (.inr (x0, x1, x2, x3)), h => exact Or.inr ⟨x0, x1, x2, x3, rfl, h⟩
def bc4 {α0 : Type} {α1 : Type} {α2 : Type} {α3 : Type} {γ : Type} (o : Option (Nat ⊕ (α0 × α1 × α2 × α3))) (X : Nat → Option γ) (K : (α0 → α1 → α2 → α3 → Option γ)) : Option γ := match o with
  | none => none
  | some (.inl n) => X n
  | some (.inr (x0, x1, x2, x3)) => K x0 x1 x2 x3
theorem bc4_s {α0 : Type} {α1 : Type} {α2 : Type} {α3 : Type} {γ : Type} {o : Option (Nat ⊕ (α0 × α1 × α2 × α3))} {X : Nat → Option γ} {K : (α0 → α1 → α2 → α3 → Option γ)} {r : γ} (h : bc4 o X K = some r) : (∃ n, o = some (.inl n) ∧ X n = some r) ∨ (∃ (x0 : α0) (x1 : α1) (x2 : α2) (x3 : α3), o = some (.inr (x0, x1, x2, x3)) ∧ K x0 x1 x2 x3 = some r) := by
  match o, h with
  | some (.inl n), h => exact Or.inl ⟨n, rfl, h⟩
  | some (.inr (x0, x1, x2, x3)), h => exact Or.inr ⟨x0, x1, x2, x3, rfl, h⟩
def bz0 {γ : Type} (o : Option (Nat ⊕ Unit)) (K : (Option γ)) : Option γ := match o with
  | none => none
  | some (.inl n) => none
  | some (.inr _) => K
theorem bz0_s {γ : Type} {o : Option (Nat ⊕ Unit)} {K : (Option γ)} {r : γ} (h : bz0 o K = some r) : o = some (.inr ()) ∧ K = some r := by
  match o, h with
  | some (.inr ()), h => exact ⟨rfl, h⟩
def bz1 {α0 : Type} {γ : Type} (o : Option (Nat ⊕ α0)) (K : (α0 → Option γ)) : Option γ := match o with
  | none => none
  | some (.inl n) => none
  | some (.inr x0) => K x0
theorem bz1_s {α0 : Type} {γ : Type} {o : Option (Nat ⊕ α0)} {K : (α0 → Option γ)} {r : γ} (h : bz1 o K = some r) : ∃ (x0 : α0), o = some (.inr x0) ∧ K x0 = some r := by
  match o, h with
  | some (.inr x0), h => exact ⟨x0, rfl, h⟩
def bz2 {α0 : Type} {α1 : Type} {γ : Type} (o : Option (Nat ⊕ (α0 × α1))) (K : (α0 → α1 → Option γ)) : Option γ := match o with
  | none => none
  | some (.inl n) => none
  | some (.inr (x0, x1)) => K x0 x1
theorem bz2_s {α0 : Type} {α1 : Type} {γ : Type} {o : Option (Nat ⊕ (α0 × α1))} {K : (α0 → α1 → Option γ)} {r : γ} (h : bz2 o K = some r) : ∃ (x0 : α0) (x1 : α1), o = some (.inr (x0, x1)) ∧ K x0 x1 = some r := by
  match o, h with
  | some (.inr (x0, x1)), h => exact ⟨x0, x1, rfl, h⟩
def bz3 {α0 : Type} {α1 : Type} {α2 : Type} {γ : Type} (o : Option (Nat ⊕ (α0 × α1 × α2))) (K : (α0 → α1 → α2 → Option γ)) : Option γ := match o with
  | none => none
  | some (.inl n) => none
  | some (.inr (x0, x1, x2)) => K x0 x1 x2
theorem bz3_s {α0 : Type} {α1 : Type} {α2 : Type} {γ : Type} {o : Option (Nat ⊕ (α0 × α1 × α2))} {K : (α0 → α1 → α2 → Option γ)} {r : γ} (h : bz3 o K = some r) : ∃ (x0 : α0) (x1 : α1) (x2 : α2), o = some (.inr (x0, x1, x2)) ∧ K x0 x1 x2 = some r := by
  match o, h with
  | some (.inr (x0, x1, x2)), h => exact ⟨x0, x1, x2, rfl, h⟩
def bz4 {α0 : Type} {α1 : Type} {α2 : Type} {α3 : Type} {γ : Type} (o : Option (Nat ⊕ (α0 × α1 × α2 × α3))) (K : (α0 → α1 → α2 → α3 → Option γ)) : Option γ := match o with
  | none => none
  | some (.inl n) => none
  | some (.inr (x0, x1, x2, x3)) => K x0 x1 x2 x3
theorem bz4_s {α0 : Type} {α1 : Type} {α2 : Type} {α3 : Type} {γ : Type} {o : Option (Nat ⊕ (α0 × α1 × α2 × α3))} {K : (α0 → α1 → α2 → α3 → Option γ)} {r : γ} (h : bz4 o K = some r) : ∃ (x0 : α0) (x1 : α1) (x2 : α2) (x3 : α3), o = some (.inr (x0, x1, x2, x3)) ∧ K x0 x1 x2 x3 = some r := by
  match o, h with
  | some (.inr (x0, x1, x2, x3)), h => exact ⟨x0, x1, x2, x3, rfl, h⟩
/-! where roads meet -/
def jo0 {γ : Type} (K0 : Option γ) (F : (Option γ) → Option γ) : Option γ := F K0
theorem jo0_s {γ : Type} {K0 : Option γ} {F : (Option γ) → Option γ} {r : γ} {P : Prop} {Q : Prop} (h : jo0 K0 F = some r) (h1 : K0 = some r → P) (h2 : ∀ K : Option γ, (K = some r → P) → F K = some r → Q) : Q := h2 K0 h1 h
def jo1 {α0 : Type} {γ : Type} (K0 : α0 → Option γ) (F : (α0 → Option γ) → Option γ) : Option γ := F K0
theorem jo1_s {α0 : Type} {γ : Type} {K0 : α0 → Option γ} {F : (α0 → Option γ) → Option γ} {r : γ} {P : α0 → Prop} {Q : Prop} (h : jo1 K0 F = some r) (h1 : ∀ (x0 : α0), K0 x0 = some r → P x0) (h2 : ∀ K : α0 → Option γ, (∀ (x0 : α0), K x0 = some r → P x0) → F K = some r → Q) : Q := h2 K0 h1 h
def jo2 {α0 : Type} {α1 : Type} {γ : Type} (K0 : α0 → α1 → Option γ) (F : (α0 → α1 → Option γ) → Option γ) : Option γ := F K0
theorem jo2_s {α0 : Type} {α1 : Type} {γ : Type} {K0 : α0 → α1 → Option γ} {F : (α0 → α1 → Option γ) → Option γ} {r : γ} {P : α0 → α1 → Prop} {Q : Prop} (h : jo2 K0 F = some r) (h1 : ∀ (x0 : α0) (x1 : α1), K0 x0 x1 = some r → P x0 x1) (h2 : ∀ K : α0 → α1 → Option γ, (∀ (x0 : α0) (x1 : α1), K x0 x1 = some r → P x0 x1) → F K = some r → Q) : Q := h2 K0 h1 h
def jo3 {α0 : Type} {α1 : Type} {α2 : Type} {γ : Type} (K0 : α0 → α1 → α2 → Option γ) (F : (α0 → α1 → α2 → Option γ) → Option γ) : Option γ := F K0
theorem jo3_s {α0 : Type} {α1 : Type} {α2 : Type} {γ : Type} {K0 : α0 → α1 → α2 → Option γ} {F : (α0 → α1 → α2 → Option γ) → Option γ} {r : γ} {P : α0 → α1 → α2 → Prop} {Q : Prop} (h : jo3 K0 F = some r) (h1 : ∀ (x0 : α0) (x1 : α1) (x2 : α2), K0 x0 x1 x2 = some r → P x0 x1 x2) (h2 : ∀ K : α0 → α1 → α2 → Option γ, (∀ (x0 : α0) (x1 : α1) (x2 : α2), K x0 x1 x2 = some r → P x0 x1 x2) → F K = some r → Q) : Q := h2 K0 h1 h
def jo4 {α0 : Type} {α1 : Type} {α2 : Type} {α3 : Type} {γ : Type} (K0 : α0 → α1 → α2 → α3 → Option γ) (F : (α0 → α1 → α2 → α3 → Option γ) → Option γ) : Option γ := F K0
theorem jo4_s {α0 : Type} {α1 : Type} {α2 : Type} {α3 : Type} {γ : Type} {K0 : α0 → α1 → α2 → α3 → Option γ} {F : (α0 → α1 → α2 → α3 → Option γ) → Option γ} {r : γ} {P : α0 → α1 → α2 → α3 → Prop} {Q : Prop} (h : jo4 K0 F = some r) (h1 : ∀ (x0 : α0) (x1 : α1) (x2 : α2) (x3 : α3), K0 x0 x1 x2 x3 = some r → P x0 x1 x2 x3) (h2 : ∀ K : α0 → α1 → α2 → α3 → Option γ, (∀ (x0 : α0) (x1 : α1) (x2 : α2) (x3 : α3), K x0 x1 x2 x3 = some r → P x0 x1 x2 x3) → F K = some r → Q) : Q := h2 K0 h1 h
def jo5 {α0 : Type} {α1 : Type} {α2 : Type} {α3 : Type} {α4 : Type} {γ : Type} (K0 : α0 → α1 → α2 → α3 → α4 → Option γ) (F : (α0 → α1 → α2 → α3 → α4 → Option γ) → Option γ) : Option γ := F K0
theorem jo5_s {α0 : Type} {α1 : Type} {α2 : Type} {α3 : Type} {α4 : Type} {γ : Type} {K0 : α0 → α1 → α2 → α3 → α4 → Option γ} {F : (α0 → α1 → α2 → α3 → α4 → Option γ) → Option γ} {r : γ} {P : α0 → α1 → α2 → α3 → α4 → Prop} {Q : Prop} (h : jo5 K0 F = some r) (h1 : ∀ (x0 : α0) (x1 : α1) (x2 : α2) (x3 : α3) (x4 : α4), K0 x0 x1 x2 x3 x4 = some r → P x0 x1 x2 x3 x4) (h2 : ∀ K : α0 → α1 → α2 → α3 → α4 → Option γ, (∀ (x0 : α0) (x1 : α1) (x2 : α2) (x3 : α3) (x4 : α4), K x0 x1 x2 x3 x4 = some r → P x0 x1 x2 x3 x4) → F K = some r → Q) : Q := h2 K0 h1 h
def jo6 {α0 : Type} {α1 : Type} {α2 : Type} {α3 : Type} {α4 : Type} {α5 : Type} {γ : Type} (K0 : α0 → α1 → α2 → α3 → α4 → α5 → Option γ) (F : (α0 → α1 → α2 → α3 → α4 → α5 → Option γ) → Option γ) : Option γ := F K0
theorem jo6_s {α0 : Type} {α1 : Type} {α2 : Type} {α3 : Type} {α4 : Type} {α5 : Type} {γ : Type} {K0 : α0 → α1 → α2 → α3 → α4 → α5 → Option γ} {F : (α0 → α1 → α2 → α3 → α4 → α5 → Option γ) → Option γ} {r : γ} {P : α0 → α1 → α2 → α3 → α4 → α5 → Prop} {Q : Prop} (h : jo6 K0 F = some r) (h1 : ∀ (x0 : α0) (x1 : α1) (x2 : α2) (x3 : α3) (x4 : α4) (x5 : α5), K0 x0 x1 x2 x3 x4 x5 = some r → P x0 x1 x2 x3 x4 x5) (h2 : ∀ K : α0 → α1 → α2 → α3 → α4 → α5 → Option γ, (∀ (x0 : α0) (x1 : α1) (x2 : α2) (x3 : α3) (x4 : α4) (x5 : α5), K x0 x1 x2 x3 x4 x5 = some r → P x0 x1 x2 x3 x4 x5) → F K = some r → Q) : Q := h2 K0 h1 h
def jo7 {α0 : Type} {α1 : Type} {α2 : Type} {α3 : Type} {α4 : Type} {α5 : Type} {α6 : Type} {γ : Type} (K0 : α0 → α1 → α2 → α3 → α4 → α5 → α6 → Option γ) (F : (α0 → α1 → α2 → α3 → α4 → α5 → α6 → Option γ) → Option γ) : Option γ := F K0
theorem jo7_s {α0 : Type} {α1 : Type} {α2 : Type} {α3 : Type} {α4 : Type} {α5 : Type} {α6 : Type} {γ : Type} {K0 : α0 → α1 → α2 → α3 → α4 → α5 → α6 → Option γ} {F : (α0 → α1 → α2 → α3 → α4 → α5 → α6 → Option γ) → Option γ} {r : γ} {P : α0 → α1 → α2 → α3 → α4 → α5 → α6 → Prop} {Q : Prop} (h : jo7 K0 F = some r) (h1 : ∀ (x0 : α0) (x1 : α1) (x2 : α2) (x3 : α3) (x4 : α4) (x5 : α5) (x6 : α6), K0 x0 x1 x2 x3 x4 x5 x6 = some r → P x0 x1 x2 x3 x4 x5 x6) (h2 : ∀ K : α0 → α1 → α2 → α3 → α4 → α5 → α6 → Option γ, (∀ (x0 : α0) (x1 : α1) (x2 : α2) (x3 : α3) (x4 : α4) (x5 : α5) (x6 : α6), K x0 x1 x2 x3 x4 x5 x6 = some r → P x0 x1 x2 x3 x4 x5 x6) → F K = some r → Q) : Q := h2 K0 h1 h
def jo8 {α0 : Type} {α1 : Type} {α2 : Type} {α3 : Type} {α4 : Type} {α5 : Type} {α6 : Type} {α7 : Type} {γ : Type} (K0 : α0 → α1 → α2 → α3 → α4 → α5 → α6 → α7 → Option γ) (F : (α0 → α1 → α2 → α3 → α4 → α5 → α6 → α7 → Option γ) → Option γ) : Option γ := F K0
theorem jo8_s {α0 : Type} {α1 : Type} {α2 : Type} {α3 : Type} {α4 : Type} {α5 : Type} {α6 : Type} {α7 : Type} {γ : Type} {K0 : α0 → α1 → α2 → α3 → α4 → α5 → α6 → α7 → Option γ} {F : (α0 → α1 → α2 → α3 → α4 → α5 → α6 → α7 → Option γ) → Option γ} {r : γ} {P : α0 → α1 → α2 → α3 → α4 → α5 → α6 → α7 → Prop} {Q : Prop} (h : jo8 K0 F = some r) (h1 : ∀ (x0 : α0) (x1 : α1) (x2 : α2) (x3 : α3) (x4 : α4) (x5 : α5) (x6 : α6) (x7 : α7), K0 x0 x1 x2 x3 x4 x5 x6 x7 = some r → P x0 x1 x2 x3 x4 x5 x6 x7) (h2 : ∀ K : α0 → α1 → α2 → α3 → α4 → α5 → α6 → α7 → Option γ, (∀ (x0 : α0) (x1 : α1) (x2 : α2) (x3 : α3) (x4 : α4) (x5 : α5) (x6 : α6) (x7 : α7), K x0 x1 x2 x3 x4 x5 x6 x7 = some r → P x0 x1 x2 x3 x4 x5 x6 x7) → F K = some r → Q) : Q := h2 K0 h1 h
end
section
/-! BASE 3: constructors, new objects, the script, the law's switch -/
section GC
variable {ss : Ev} {p : Program} {l : Launch} {e : Env} {R : Room} {s : State} {m : MethodId} {args : Array Value} {below : List Frame} {meth : Method} {c : Code} {Q : State → Prop}
variable {D : va_G} {A : Nat → Prop} {tys : List (ClassId × FieldType)} {Ts : List Cond} {own : String} {cc : ByteArray} {nL : Nat} {tb : List ExceptionTableEntry} {ws ws' : va_W} {cells slots pc : Nat} {lv : List (Nat × Value)} {st : List Value}
abbrev zS : S2 := fun _ _ => 0
theorem met_of {y : MethodName} {ws : List Cond} {rm : Room} {Pc : Array Value → State → Prop} {Qc : Array Value → State → Outcome → State → Prop} {XC : String → State → State → Prop} {mc ms : Nat} {free : Addr → Prop} (hx : ∀ E st t, ¬ XC E st t) (h : vx_Met l y ws rm Pc Qc XC mc ms free) : Met l y ws rm Pc Qc mc ms free := by
  intro p e ha h1 h2 s m args below hf happ hP hK
  obtain ⟨n, o, a1, a2, a3, hq⟩ := h p e ha h1 h2 s m args below hf happ hP hK
  refine ⟨n, o, a1, a2, a3, ?_⟩
  rcases hq with hq | ⟨q, -, E, ce, L, hx', -⟩
  · exact hq
  · exact absurd hx' (hx _ _ _)
theorem g_objinit (C : Cx ss p l s m args meth c cc nL Ts own D tys A tb) {i a : Nat} (h1 : (Cond.methodLink own i Lib.objectInit).before args s = true) (h2 : (Cond.instanceMethod Lib.objectInit).before args s = true) (h3 : (Cond.code Lib.objectInit ⟨#[0xb1]⟩ 1 none).before args s = true) (hf : 1 ≤ R.frames) (hlo : (st.map fun v => v.category).sum + 12 ≤ R.locals) (d : decode cc pc = .ok (.invokespecial i, 3)) (q : Nat) (hq : pc + 3 = q) (kk : Gq p l e R s m args below meth c D A nL Q ws cells slots q lv st) : Gq p l e R s m args below meth c D A nL Q ws cells slots pc lv (.ref a :: st) := by
  subst hq
  intro H locs ls hP hD hS hl
  refine W.objInit C.1 C.2.1 C.2.2.2.1 h1 h2 h3 (a := a) (rest := st) rfl (by rw [C.2.2.1]; exact hl.1) rfl d hf (by show 2 * 0 + _ + 12 ≤ _; omega) ?_
  exact kk H locs ls hP hD hS hl
theorem g_putF (C : Cx ss p l s m args meth c cc nL Ts own D tys A tb) {ref Cn : String} {T : u_T} {N ci i a z : Nat} {fs : List Value} {ty : FieldType} (hin : ∀ w ∈ u_ws Cn T N, w ∈ Ts) (ty0 : Nat → FieldType) (hty : ∀ k, k < N → parseFieldDescriptor (T k).2.2.1 = some (ty0 k)) (hnm : ∀ a, a < N → ∀ b, b < N → a ≠ b → (T a).2.1 ≠ (T b).2.1) (q0 : Nat) (he : ws[q0]? = some (a, .inr (ci, fs))) (hc : vwCl[ci]? = some (Cn, T, N)) (k : Nat) (hk : k < N) (hlink : (Cond.fieldLink own i ref (T k).2.1 (T k).2.2.1).before args s = true) (hsame : (T k).1 = ref) (hfl : (T k).2.2.2 = true) (hin2 : meth.name = "<init>") (hdecl : (T k).1 = own) (hd : parseFieldDescriptor (T k).2.2.1 = some ty) (hn : narrow ty (.ref z) = .ref z) (hfit : fits ty (.ref z) = true) (hl0 : k < fs.length) (hw : ws.set q0 (a, .inr (ci, fs.set k (.ref z))) = ws') (d : decode cc pc = .ok (.putfield i, 3)) (q : Nat) (hq : pc + 3 = q)
    (kk : Gq p l e R s m args below meth c D A nL Q ws' cells slots q lv st) : Gq p l e R s m args below meth c D A nL Q ws cells slots pc lv (.ref z :: .ref a :: st) := by
  subst hq; subst hw
  exact fun H locs ls hP hD hS hl => va_putF (v := .ref z) (ty := ty) C.1 C.2.1 C.2.2.2.2.1 hin ty0 hty hnm C.2.2.2.1 C.2.2.2.2.2.1 hP hD hS q0 he hc k hk hlink (fun x h => by rw [← hsame]; exact h) hfl hin2 hdecl hd hn hfit hl0 d (fun H locs hP hD hS => kk H locs ls hP hD hS hl)
theorem g_new (C : Cx ss p l s m args meth c cc nL Ts own D tys A tb) {Cn : String} {T : u_T} {N ci i : Nat} {fs : List Value} (hin : ∀ w ∈ u_ws Cn T N, w ∈ Ts) (ty0 : Nat → FieldType) (hty : ∀ k, k < N → parseFieldDescriptor (T k).2.2.1 = some (ty0 k)) (h1 : (Cond.classLink own i Cn).before args s = true) (h2 : (Cond.instantiable Cn N).before args s = true) (h3 : (Cond.initialized Cn).before args s = true) (hc : vwCl[ci]? = some (Cn, T, N)) (hfs : ∀ j, j < N → defaultValue (ty0 j) = vp_V fs j) {c2 s2 : Nat} (hc2 : cells + 1 = c2) (hs2 : slots + N = s2) (hcells : c2 ≤ R.cells) (hslots : s2 ≤ R.slots) (d : decode cc pc = .ok (.new i, 3)) (q : Nat) (hq : pc + 3 = q)
    (kk : ∀ z : Nat, Gq p l e R s m args below meth c D A nL Q (ws ++ [(z, .inr (ci, fs))]) c2 s2 q lv (.ref z :: st)) : Gq p l e R s m args below meth c D A nL Q ws cells slots pc lv st := by
  subst hq; subst hc2; subst hs2
  exact fun H locs ls hP hD hS hl => va_new C.1 C.2.1 C.2.2.2.2.1 hin ty0 hty C.2.2.2.1 h1 h2 h3 C.2.2.2.2.2.1 hP hD hS C.2.2.2.2.2.2.1 hc hfs hcells hslots d (fun z H1 hP hD hS => kk z H1 locs ls hP hD hS hl)
theorem vx_of_va {H : Heap} {locs : List Loc} {mc ms : Nat} {g : JFrame} {rest : List Value} {Qa : State → Outcome → State → Prop} {XC : String → State → State → Prop} {free : Addr → Prop} (h : va_Run p l e R s m args below meth c H locs cells slots mc ms g rest Qa free) : vx_Run p l e R s m args below meth c H locs cells slots mc ms g rest Qa XC free := fun T hT X => Or.inl (h T hT X)
/-- a constructor, called by its class's own link -/
theorem g_callI (C : Cx ss p l s m args meth c cc nL Ts own D tys A tb) {y : MethodName} {w0 : List Cond} {rm : Room} {bytes : ByteArray} {maxL mc ms i b : Nat} {Cn : String} {rest : List Value} {W0 wl wr : va_W} {Rr : Oc → Prop} {c2 s2 : Nat}
    (hct : Ct ss l y w0 rm D tys [.ref b] W0 Rr mc ms) (hno : ∀ n, ¬ Rr (.inl n)) (cf : CF y w0 rm bytes maxL none 0 mc ms Cn) (hg : GoodIn Ts w0) (hini : (Cond.initialized y.cls).before args s = true) (hl0 : (Cond.methodLink own i y).before args s = true) (hin : (Cond.instanceMethod y).before args s = true) (hy1 : y.name = "<init>") (hR : rm.frames + 1 ≤ R.frames ∧ 8 + (maxL + 11) + rm.locals ≤ R.locals)
    (hws : ws = wl ++ (W0 ++ wr)) (hst : st = .ref b :: rest) (hrest : (rest.map fun v => v.category).sum ≤ 8) (hc2 : cells + mc = c2) (hs2 : slots + ms = s2) (hf : c2 ≤ R.cells ∧ s2 ≤ R.slots) (d : decode cc pc = .ok (.invokespecial i, 3)) (q : Nat) (hq : pc + 3 = q)
    (kk : ∀ rv W1, Rr (.inr (rv, W1)) → Gq p l e R s m args below meth c D A nL Q (wl ++ (W1 ++ wr)) c2 s2 q lv (rv.toList ++ rest)) : Gq p l e R s m args below meth c D A nL Q ws cells slots pc lv st := by
  subst hws
  intro H locs ls hP hD hS hl
  obtain ⟨⟨ws', hw⟩, hrc, hrs, hy, hy1', hy2, hdesc⟩ := cf
  have hP0 : va_P D vwCl W0 H := (vp_app.mp (vp_app.mp hP).2).1
  have hD0 : va_D A W0 := (vd_app.mp (vd_app.mp hD).2.1).1
  have hF := ct_free C hD0 hS
  have hM := met_of (fun E st t h => by obtain ⟨⟨n, h1, -⟩, -⟩ := h; exact hno n h1) (hct H.size)
  have cw := cwI (R := R) (s := s) (args := args) (own := own) (index := i) (y := y) (maxL := maxL) (bytes := bytes) (rm := rm) (mc := mc) (ms := ms) 0 C.2.2.2.2.1 hg hw hrc hrs hini hl0 hin hy1 ⟨hy1', hy2, hdesc⟩ hR
  exact g_run C hP hD hS hl hc2 hs2 hq (vx_of_va (va_runI (As := []) (rest := rest) ⟨C.1, C.2.1, C.2.2.1, C.2.2.2.1, C.2.2.2.2.1⟩ hM cw ⟨ct_blind, fun U hU hW => ct_pre C hP0 hD0 hS hF U hU hW⟩ rfl rfl hl.1 hst (lv_room hrest) d ⟨by omega, by omega⟩)) (fun n h => absurd h (hno n)) kk
/-- a private constructor of a nest mate -/
theorem g_callIN (C : Cx ss p l s m args meth c cc nL Ts own D tys A tb) {y : MethodName} {w0 : List Cond} {rm : Room} {bytes : ByteArray} {maxL mc ms i b : Nat} {Cn host : String} {rest : List Value} {W0 wl wr : va_W} {Rr : Oc → Prop} {c2 s2 : Nat}
    (hct : Ct ss l y w0 rm D tys [.ref b] W0 Rr mc ms) (hno : ∀ n, ¬ Rr (.inl n)) (cf : CF y w0 rm bytes maxL none 0 mc ms Cn) (hg : GoodIn Ts w0) (hini : (Cond.initialized y.cls).before args s = true) (hl0 : Cond.methodLinkNest own i y host ∈ ev_w) (hin : (Cond.instanceMethod y).before args s = true) (hy1 : y.name = "<init>") (hR : rm.frames + 1 ≤ R.frames ∧ 8 + (maxL + 11) + rm.locals ≤ R.locals)
    (hws : ws = wl ++ (W0 ++ wr)) (hst : st = .ref b :: rest) (hrest : (rest.map fun v => v.category).sum ≤ 8) (hc2 : cells + mc = c2) (hs2 : slots + ms = s2) (hf : c2 ≤ R.cells ∧ s2 ≤ R.slots) (d : decode cc pc = .ok (.invokespecial i, 3)) (q : Nat) (hq : pc + 3 = q)
    (kk : ∀ rv W1, Rr (.inr (rv, W1)) → Gq p l e R s m args below meth c D A nL Q (wl ++ (W1 ++ wr)) c2 s2 q lv (rv.toList ++ rest)) : Gq p l e R s m args below meth c D A nL Q ws cells slots pc lv st := by
  subst hws
  intro H locs ls hP hD hS hl
  obtain ⟨⟨ws', hw⟩, hrc, hrs, hy, hy1', hy2, hdesc⟩ := cf
  have hP0 : va_P D vwCl W0 H := (vp_app.mp (vp_app.mp hP).2).1
  have hD0 : va_D A W0 := (vd_app.mp (vd_app.mp hD).2.1).1
  have hF := ct_free C hD0 hS
  have hM := met_of (fun E st t h => by obtain ⟨⟨n, h1, -⟩, -⟩ := h; exact hno n h1) (hct H.size)
  have cw := va_cnB (R := R) (s := s) (args := args) (own := own) (index := i) (y := y) (host := host) (ret := none) (maxL := maxL) (bytes := bytes) (rm := rm) (mc := mc) (ms := ms) 0 C.2.2.2.2.1 hg hw hrc hrs (C.2.2.2.2.2.2.2.2.1.2.2.1 _ hl0) hini ⟨hy1', hy2, hdesc⟩ hR
  exact g_run C hP hD hS hl hc2 hs2 hq (vx_of_va (va_runIN (As := []) (rest := rest) ⟨C.1, C.2.1, C.2.2.1, C.2.2.2.1, C.2.2.2.2.1⟩ hM ⟨cw, hy1, hin⟩ ⟨ct_blind, fun U hU hW => ct_pre C hP0 hD0 hS hF U hU hW⟩ rfl rfl hl.1 hst (lv_room hrest) d ⟨by omega, by omega⟩)) (fun n h => absurd h (hno n)) kk
theorem g_sld (C : Cx ss p l s m args meth c cc nL Ts own D tys A tb) {i x : Int32} (hld : ldA ss.2.2.2 ss.2.2.1 i = some x) (d : decode cc pc = .ok (.iaload, 1)) (q : Nat) (hq : pc + 1 = q) (kk : Gq p l e R s m args below meth c D A nL Q ws cells slots q lv (.int x :: st)) : Gq p l e R s m args below meth c D A nL Q ws cells slots pc lv (.int i :: .ref ss.2.1 :: st) := by
  subst hq
  obtain ⟨hin, rfl⟩ := ldA_s hld
  obtain ⟨hX, hbl, hbA⟩ := C.2.2.2.2.2.2.2.2.1.2.2.2.2.2.2
  exact fun H locs ls hP hD hS hl => va_sld C.1 C.2.1 hX hbl hbA hS hin d (kk H locs ls hP hD hS hl)
theorem g_slen (C : Cx ss p l s m args meth c cc nL Ts own D tys A tb) (d : decode cc pc = .ok (.arraylength, 1)) (q : Nat) (hq : pc + 1 = q) (kk : Gq p l e R s m args below meth c D A nL Q ws cells slots q lv (.int (nI ss.2.2.1) :: st)) : Gq p l e R s m args below meth c D A nL Q ws cells slots pc lv (.ref ss.2.1 :: st) := by
  subst hq
  obtain ⟨hX, hbl, hbA⟩ := C.2.2.2.2.2.2.2.2.1.2.2.2.2.2.2
  exact fun H locs ls hP hD hS hl => va_slen C.1 C.2.1 hX hbl hbA hS d (kk H locs ls hP hD hS hl)
theorem g_tab (C : Cx ss p l s m args meth c cc nL Ts own D tys A tb) {dflt lo hi : Int} {offs : Array Int} {len : Nat} {x y : Int32} {off : Int} (hxy : x = y) (d : decode cc pc = .ok (.tableswitch dflt lo hi offs, len)) (h1 : ¬ y.toInt < lo) (h2 : ¬ hi < y.toInt) (ho : offs[(y.toInt - lo).toNat]? = some off) (q : Nat) (hq : (pc : Int) + off = (q : Int)) (kk : Gq p l e R s m args below meth c D A nL Q ws cells slots q lv st) : Gq p l e R s m args below meth c D A nL Q ws cells slots pc lv (.int x :: st) := by
  subst hxy
  exact fun H locs ls hP hD hS hl => lv_tableIn C.1 C.2.1 d h1 h2 ho hq (kk H locs ls hP hD hS hl)
end GC
theorem g_ws {p : Program} {l : Launch} {e : Env} {R : Room} {s : State} {m : MethodId} {args : Array Value} {below : List Frame} {meth : Method} {c : Code} {Q : State → Prop} {D : va_G} {A : Nat → Prop} {nL : Nat} {ws ws' : va_W} {cells slots pc : Nat} {lv : List (Nat × Value)} {st : List Value} (h : ws = ws') (kk : Gq p l e R s m args below meth c D A nL Q ws' cells slots pc lv st) : Gq p l e R s m args below meth c D A nL Q ws cells slots pc lv st := h ▸ kk
theorem g_perm {p : Program} {l : Launch} {e : Env} {R : Room} {s : State} {m : MethodId} {args : Array Value} {below : List Frame} {meth : Method} {c : Code} {Q : State → Prop} {D : va_G} {A : Nat → Prop} {nL : Nat} {ws ws' wl w1 w2 : va_W} {cells slots pc : Nat} {lv : List (Nat × Value)} {st : List Value} (h : ws = wl ++ (w1 ++ w2)) (h' : wl ++ (w2 ++ w1) = ws') (kk : Gq p l e R s m args below meth c D A nL Q ws' cells slots pc lv st) : Gq p l e R s m args below meth c D A nL Q ws cells slots pc lv st := by
  subst h; subst h'
  intro H locs ls hP hD hS hl
  refine kk H locs ls ?_ ?_ hS hl
  · simp only [vp_app] at hP ⊢
    exact ⟨hP.1, hP.2.2, hP.2.1⟩
  · simp only [vd_app] at hD ⊢
    obtain ⟨a1, ⟨a2, a3, a4⟩, a5⟩ := hD
    refine ⟨a1, ⟨a3, a2, fun p hp q hq e => a4 q hq p hp e.symm⟩, fun p hp q hq => a5 p hp q ?_⟩
    rcases List.mem_append.mp hq with h | h
    · exact List.mem_append_right _ h
    · exact List.mem_append_left _ h
end
section
/-! SIM: more instructions, rows of rows, the law's own object (laid by wip/p35/gen/sim.py) -/
section GS
variable {ss : Ev} {p : Program} {l : Launch} {e : Env} {R : Room} {s : State} {m : MethodId} {args : Array Value} {below : List Frame} {meth : Method} {c : Code} {Q : State → Prop}
variable {D : va_G} {A : Nat → Prop} {tys : List (ClassId × FieldType)} {Ts : List Cond} {own : String} {cc : ByteArray} {nL : Nat} {tb : List ExceptionTableEntry} {ws ws' : va_W} {cells slots pc q : Nat} {lv lv' : List (Nat × Value)} {st : List Value}
theorem g_sipush (C : Cx ss p l s m args meth c cc nL Ts own D tys A tb) {n : Int} {v : Int32} (hv : (Int16.ofInt n).toInt32 = v) (d : decode cc pc = .ok (.sipush n, 3)) (q : Nat) (hq : pc + 3 = q) (kk : Gq p l e R s m args below meth c D A nL Q ws cells slots q lv (.int v :: st)) : Gq p l e R s m args below meth c D A nL Q ws cells slots pc lv st := by
  subst hq
  exact fun H locs ls hP hD hS hl => lv_sipush C.1 C.2.1 d hv (kk H locs ls hP hD hS hl)
theorem g_ldc (C : Cx ss p l s m args meth c cc nL Ts own D tys A tb) {i : Nat} {v : Int32} (hw : (Cond.constant own i v).before args s = true) (d : decode cc pc = .ok (.ldc i, 2)) (q : Nat) (hq : pc + 2 = q) (kk : Gq p l e R s m args below meth c D A nL Q ws cells slots q lv (.int v :: st)) : Gq p l e R s m args below meth c D A nL Q ws cells slots pc lv st := by
  subst hq
  exact fun H locs ls hP hD hS hl => lv_ldc C.1 C.2.1 C.2.2.2.1 hw d (kk H locs ls hP hD hS hl)
theorem g_irem (C : Cx ss p l s m args meth c cc nL Ts own D tys A tb) {x y : Int32} (hy : ¬ y = 0) (d : decode cc pc = .ok (.irem, 1)) (q : Nat) (hq : pc + 1 = q) (kk : Gq p l e R s m args below meth c D A nL Q ws cells slots q lv (.int (x - x / y * y) :: st)) : Gq p l e R s m args below meth c D A nL Q ws cells slots pc lv (.int y :: .int x :: st) := by
  subst hq
  exact fun H locs ls hP hD hS hl => lv_irem C.1 C.2.1 d hy (kk H locs ls hP hD hS hl)
theorem g_ishr (C : Cx ss p l s m args meth c cc nL Ts own D tys A tb) {x y : Int32} (d : decode cc pc = .ok (.ishr, 1)) (q : Nat) (hq : pc + 1 = q) (kk : Gq p l e R s m args below meth c D A nL Q ws cells slots q lv (.int (x >>> (y &&& 31)) :: st)) : Gq p l e R s m args below meth c D A nL Q ws cells slots pc lv (.int y :: .int x :: st) := by
  subst hq
  exact fun H locs ls hP hD hS hl => lv_ishr C.1 C.2.1 d (kk H locs ls hP hD hS hl)
theorem g_if_ge (C : Cx ss p l s m args meth c cc nL Ts own D tys A tb) {x : Int32} {off : Int} (d : decode cc pc = .ok (.ifCond .ge off, 3)) (tgt q : Nat) (ht : (pc : Int) + off = (tgt : Int)) (hq : pc + 3 = q) (kt : 0 ≤ x → Gq p l e R s m args below meth c D A nL Q ws cells slots tgt lv st) (kf : ¬ 0 ≤ x → Gq p l e R s m args below meth c D A nL Q ws cells slots q lv st) : Gq p l e R s m args below meth c D A nL Q ws cells slots pc lv (.int x :: st) := by
  subst hq
  exact fun H locs ls hP hD hS hl => lv_if_ge C.1 C.2.1 d ht (fun h => kt h H locs ls hP hD hS hl) (fun h => kf h H locs ls hP hD hS hl)
theorem g_nonnull (C : Cx ss p l s m args meth c cc nL Ts own D tys A tb) {x : Nat} {off : Int} (d : decode cc pc = .ok (.ifnonnull off, 3)) (tgt : Nat) (ht : (pc : Int) + off = (tgt : Int)) (kk : Gq p l e R s m args below meth c D A nL Q ws cells slots tgt lv st) : Gq p l e R s m args below meth c D A nL Q ws cells slots pc lv (.ref x :: st) :=
  fun H locs ls hP hD hS hl => lv_ifnonnull C.1 C.2.1 d ht (kk H locs ls hP hD hS hl)
theorem g_aret (C : Cx ss p l s m args meth c cc nL Ts own D tys A tb) {W0 : va_W} {Rr : Oc → Prop} {mc ms a : Nat} {rt : FieldType} (hr : meth.sig.returnType = some rt) (hrt : (∃ n, rt = .object n) ∨ ∃ t, rt = .array t) (hR : Rr (.inr (some (.ref a), ws))) (h1 : cells ≤ mc) (h2 : slots ≤ ms) (d : decode cc pc = .ok (.areturn, 1)) : Gq p l e R s m args below meth c D A nL (CQ below D W0 Rr args s mc ms A) ws cells slots pc lv [.ref a] :=
  fun H locs ls hP hD hS hl => W.widen h1 h2 (vx_ret (W.aret C.1 C.2.1 hr hrt (Or.inr ⟨a, rfl⟩) (fun t ht hW => ⟨⟨_, _, hR, rfl, by rw [ht]; exact hP, hD⟩, hS.F ht⟩) hS.2.2 d C.2.2.2.2.2.2.2.1))
theorem g_tabD (C : Cx ss p l s m args meth c cc nL Ts own D tys A tb) {dflt lo hi : Int} {offs : Array Int} {len : Nat} {x : Int32} (d : decode cc pc = .ok (.tableswitch dflt lo hi offs, len)) (h : x.toInt < lo ∨ hi < x.toInt) (q : Nat) (hq : (pc : Int) + dflt = (q : Int)) (kk : Gq p l e R s m args below meth c D A nL Q ws cells slots q lv st) : Gq p l e R s m args below meth c D A nL Q ws cells slots pc lv (.int x :: st) :=
  fun H locs ls hP hD hS hl => lv_tableOut C.1 C.2.1 d h hq (kk H locs ls hP hD hS hl)
theorem out3 {x : Int32} {a b c : Int32} (ha : ¬ x = a) (hb : ¬ x = b) (hc : ¬ x = c) (h1 : b.toInt = a.toInt + 1) (h2 : c.toInt = a.toInt + 2) : x.toInt < a.toInt ∨ c.toInt < x.toInt := by
  have e1 : x.toInt ≠ a.toInt := fun h => ha (Int32.toInt_inj.mp h)
  have e2 : x.toInt ≠ b.toInt := fun h => hb (Int32.toInt_inj.mp h)
  have e3 : x.toInt ≠ c.toInt := fun h => hc (Int32.toInt_inj.mp h)
  omega
/-- references, as an array holds them -/
abbrev oQ (f : Nat → Option Nat) : (Nat → Int32) ⊕ (Nat → Int64) ⊕ (Nat → UInt32) ⊕ (Nat → UInt64) ⊕ (Nat → Option Nat) := .inr (.inr (.inr (.inr f)))
theorem g_aald (C : Cx ss p l s m args meth c cc nL Ts own D tys A tb) {a n x : Nat} {cA : ClassId} {f : Nat → Option Nat} {i : Int32} (q0 t0 : Nat) (ha : ws[q0]? = some (a, .inl (cA, n, oQ f))) (ht : tys[t0]? = some (cA, .array .int)) (hin : vp_in i n) (hx : f i.toNatClampNeg = some x) (d : decode cc pc = .ok (.aaload, 1)) (q : Nat) (hq : pc + 1 = q) (kk : Gq p l e R s m args below meth c D A nL Q ws cells slots q lv (.ref x :: st)) : Gq p l e R s m args below meth c D A nL Q ws cells slots pc lv (.int i :: .ref a :: st) := by
  subst hq
  have hlt : i.toNatClampNeg < n := Nat.not_le.mp fun q => hin (Or.inr q)
  exact fun H locs ls hP hD hS hl => W.aald (v := .ref x) (ty := .array .int) C.1 C.2.1 (hP q0 _ ha) ((C.2.2.2.2.2.1.2 t0 _ ht).1 n (fun j => va_rf (f j))) rfl (fun q => by cases q) (by show ¬ (i < 0 ∨ (arrV _ _ _).slots.size ≤ _); rw [arrV_size]; exact hin) (by show (arrV _ _ _).slots[_]? = _; rw [arrV_read _ _ hlt, hx]; rfl) rfl rfl d (kk H locs ls hP hD hS hl)
theorem g_anew (C : Cx ss p l s m args meth c cc nL Ts own D tys A tb) {i t0 N : Nat} {cA : ClassId} {n : Int32} (hlink : (Cond.classLink own i "[I").before args s = true) (ht : tys[t0]? = some (cA, .array .int)) (hn : ¬ n < 0) (hN : n.toNatClampNeg = N) (hby : N * 4 ≤ 536870912) {c2 s2 : Nat} (hc2 : cells + 1 = c2) (hs2 : slots + N = s2) (hcells : c2 ≤ R.cells) (hslots : s2 ≤ R.slots) (d : decode cc pc = .ok (.anewarray i, 3)) (q : Nat) (hq : pc + 3 = q)
    (kk : ∀ z : Nat, Gq p l e R s m args below meth c D A nL Q (ws ++ [(z, .inl (cA, N, oQ (fun _ => none)))]) c2 s2 q lv (.ref z :: st)) : Gq p l e R s m args below meth c D A nL Q ws cells slots pc lv (.int n :: st) := by
  subst hq; subst hc2; subst hs2; subst hN
  intro H locs ls hP hD hS hl
  have hE := C.2.2.2.2.2.2.2.2.1.2.2.2.2.2.1
  have r1 : s.vm.findClass ("[" ++ (FieldType.array .int).toString) = some cA := (C.2.2.2.2.2.1.2 t0 _ ht).2
  refine W.anewA (t := .int) C.1 C.2.1 C.2.2.2.1 hlink hE rfl d rfl hn hby hcells hslots fun cB kA comp f1 f2 f3 f4 => ?_
  cases r1.symm.trans f1
  generalize hH1 : H.push ({ cls := cA, slots := Array.replicate n.toNatClampNeg .null, vm := .none } : Cell) = H1
  have z1 : H1.size = H.size + 1 := by rw [← hH1, Array.size_push]
  have e1 : H1[H.size]? = some (arrV cA n.toNatClampNeg (fun _ => .null)) := by rw [← hH1, Array.getElem?_push_size, ← arrV_new]
  have o1 : ∀ q : Nat, q < H.size → H1[q]? = H[q]? := fun q hq => by rw [← hH1, Array.getElem?_push, if_neg (Nat.ne_of_lt hq)]
  have hk : ∀ (k : Nat) (x : Nat × va_E), ws[k]? = some x → H1[x.1]? = H[x.1]? := fun k x hx => o1 x.1 ((hP k x hx).lt)
  refine kk H.size H1 locs ls ((hP.kept hk).app (fun k x hx => ?_)) (hD.push hP rfl (C.2.2.2.2.2.2.1 _ hS.1)) ⟨Nat.le_trans hS.1 (by omega), fun x h1 h2 => (o1 x (Nat.lt_of_lt_of_le h1 hS.1)).trans (hS.2.1 x h1 h2), hS.2.2⟩ hl
  have hz : k < 1 := (List.getElem?_eq_some_iff.mp hx).1
  rw [show k = 0 by omega] at hx
  cases hx
  show H1[H.size]? = some (vp_cell _ _)
  rw [vp_cell_q]
  exact e1
theorem g_aast (C : Cx ss p l s m args meth c cc nL Ts own D tys A tb) {a v n n2 : Nat} {cJ cI : ClassId} {f : Nat → Option Nat} {g : Nat → Int32} {i : Int32} (q0 tJ tI : Nat) (ha : ws[q0]? = some (a, .inl (cJ, n, oQ f))) (htJ : tys[tJ]? = some (cJ, .array .int)) (hv : (v, .inl (cI, n2, .inl g)) ∈ ws) (htI : tys[tI]? = some (cI, .int)) (hin : vp_in i n) (hw : ws.set q0 (a, .inl (cJ, n, oQ (va_up f i.toNatClampNeg (some v)))) = ws') (d : decode cc pc = .ok (.aastore, 1)) (q : Nat) (hq : pc + 1 = q) (kk : Gq p l e R s m args below meth c D A nL Q ws' cells slots q lv st) : Gq p l e R s m args below meth c D A nL Q ws cells slots pc lv (.ref v :: .int i :: .ref a :: st) := by
  subst hq; subst hw
  intro H locs ls hP hD hS hl
  obtain ⟨qk, hqk⟩ := List.getElem?_of_mem hv
  have hlt : i.toNatClampNeg < n := Nat.not_le.mp fun q => hin (Or.inr q)
  have h0 : ¬ i < 0 := fun q => hin (Or.inl q)
  have hcv : H[v]? = some (vp_cell cI (n2, .inl g)) := hP qk _ hqk
  obtain ⟨comp, c1, k1, e1, -, e3, e4, e5⟩ := arrayOverA_spec (C.2.2.2.2.2.2.2.2.1.2.2.2.2.2.1)
  have r1 : s.vm.findClass ("[" ++ (FieldType.array .int).toString) = some cJ := (C.2.2.2.2.2.1.2 tJ _ htJ).2
  cases r1.symm.trans e5
  have r2 : s.vm.findClass (FieldType.array .int).toString = some cI := (C.2.2.2.2.2.1.2 tI _ htI).2
  cases r2.symm.trans e1
  obtain ⟨-, kI, hkI, -⟩ := (C.2.2.2.2.2.1.2 tI _ htI).1 n2 (fun j => .int (g j))
  refine W.aast C.1 C.2.1 (hP q0 _ ha) (fun q h => by cases h) (fun h => by cases h) e3 e4 rfl hkI ⟨h0, by show _ < (arrV _ _ _).slots.size; rw [arrV_size]; exact hlt⟩ hcv (fun q h => by cases h) hkI (va_asg _ _) rfl rfl d fun H1 e z oq => ?_
  refine kk H1 _ ls (hP.set hD ha ?_ oq) (hD.set ha) (hS.put z oq (hD.2 q0 _ ha)) hl
  show H1[a]? = some (vp_cell _ _)
  rw [e]
  rw [vp_cell_q, vp_cell_q, arrV_store]
  congr 2
  funext q
  by_cases hq : q = i.toNatClampNeg
  · subst hq
    simp [updV, va_up, va_rf]
  · simp [updV, va_up, hq]
theorem g_putR (C : Cx ss p l s m args meth c cc nL Ts own D tys A tb) {ref Cn : String} {T : u_T} {N ci i a z : Nat} {fs : List Value} {ty : FieldType} (hin : ∀ w ∈ u_ws Cn T N, w ∈ Ts) (ty0 : Nat → FieldType) (hty : ∀ k, k < N → parseFieldDescriptor (T k).2.2.1 = some (ty0 k)) (hnm : ∀ a, a < N → ∀ b, b < N → a ≠ b → (T a).2.1 ≠ (T b).2.1) (q0 : Nat) (he : ws[q0]? = some (a, .inr (ci, fs))) (hc : vwCl[ci]? = some (Cn, T, N)) (k : Nat) (hk : k < N) (hlink : (Cond.fieldLink own i ref (T k).2.1 (T k).2.2.1).before args s = true) (hsame : (T k).1 = ref) (hfl : (T k).2.2.2 = false) (hti : ty0 k = ty) (hn : narrow ty (.ref z) = .ref z) (hfit : fits ty (.ref z) = true) (hl0 : k < fs.length) (hw : ws.set q0 (a, .inr (ci, fs.set k (.ref z))) = ws') (d : decode cc pc = .ok (.putfield i, 3)) (q : Nat) (hq : pc + 3 = q)
    (kk : Gq p l e R s m args below meth c D A nL Q ws' cells slots q lv st) : Gq p l e R s m args below meth c D A nL Q ws cells slots pc lv (.ref z :: .ref a :: st) := by
  subst hq
  subst hw
  subst hti
  exact fun H locs ls hP hD hS hl => va_put (v := .ref z) (ty := ty0 k) C.1 C.2.1 C.2.2.2.2.1 hin ty0 hty hnm C.2.2.2.1 C.2.2.2.2.2.1 hP hD hS q0 he hc k hk hlink (fun x h => by rw [← hsame]; exact h) hfl (hty k hk) hn hfit hl0 d (fun H locs hP hD hS => kk H locs ls hP hD hS hl)
/-- an array as long as a number says, and no longer than it may be -/
def len (cap : Nat) (v : Int32) : Option Nat := if v < 0 ∨ cap < v.toNatClampNeg then none else some v.toNatClampNeg
theorem len_s {cap n : Nat} {v : Int32} (h : len cap v = some n) : ¬ v < 0 ∧ v.toNatClampNeg = n ∧ n ≤ cap := by
  unfold len at h
  split at h
  · cases h
  · rename_i g
    rw [not_or, Nat.not_lt] at g
    cases h
    exact ⟨g.1, rfl, g.2⟩
def nz (y : Int32) : Option Unit := if y = 0 then none else some ()
theorem nz_s {y : Int32} {x : Unit} (h : nz y = some x) : ¬ y = 0 := by
  unfold nz at h
  split at h
  · cases h
  · assumption
theorem g_newv (C : Cx ss p l s m args meth c cc nL Ts own D tys A tb) {atype : ArrayType} {ty : FieldType} {cA : ClassId} {v : Int32} {n cap : Nat} (harr : (Cond.arrayClass (newarray.typeOf atype)).before args s = true) (hty : newarray.typeOf atype = ty) (hobj : ∀ C, ty ≠ .object C) (t0 : Nat) (ht : tys[t0]? = some (cA, ty)) (ha : ∀ cA : ClassId, vp_cell cA (n, .inl (fun _ => 0)) = arrV cA n (fun _ => defaultValue ty)) (hlen : len cap v = some n) (hby : cap * componentBytes ty ≤ 536870912) {c2 s2 : Nat} (hc2 : cells + 1 = c2) (hs2 : slots + cap = s2) (hcells : c2 ≤ R.cells) (hslots : s2 ≤ R.slots) (d : decode cc pc = .ok (.newarray atype, 2)) (q : Nat) (hq : pc + 2 = q)
    (kk : ∀ z : Nat, Gq p l e R s m args below meth c D A nL Q (ws ++ [(z, .inl (cA, n, .inl (fun _ => 0)))]) c2 s2 q lv (.ref z :: st)) : Gq p l e R s m args below meth c D A nL Q ws cells slots pc lv (.int v :: st) := by
  obtain ⟨h1, h2, h3⟩ := len_s hlen
  subst hs2
  refine g_newa C harr hty hobj t0 ht n ha h1 h2 (Nat.le_trans (Nat.mul_le_mul_right _ h3) hby) hc2 rfl hcells (Nat.le_trans (Nat.add_le_add_left h3 slots) hslots) d q hq (fun z => ?_)
  exact g_wide (Nat.le_refl _) (Nat.add_le_add_left h3 slots) (kk z)
/-- the same cells in another order -/
theorem g_pm (h : List.Perm ws ws') (kk : Gq p l e R s m args below meth c D A nL Q ws' cells slots pc lv st) : Gq p l e R s m args below meth c D A nL Q ws cells slots pc lv st := by
  intro H locs ls hP hD hS hl
  refine kk H locs ls ?_ ?_ hS hl
  · rw [vpm] at hP ⊢
    exact fun q hq => hP q (h.mem_iff.mpr hq)
  · rw [vdm] at hD ⊢
    exact ⟨(h.map _).nodup_iff.mp hD.1, fun q hq => hD.2 q (h.mem_iff.mpr hq)⟩
/-- another word for what a cell holds -/
theorem g_as {wl wr : va_W} {a : Nat} {e e' : va_E} (hws : ws = wl ++ (a, e) :: wr) (hw' : wl ++ (a, e') :: wr = ws') (he : ∀ H, va_at D vwCl (a, e) H → va_at D vwCl (a, e') H) (kk : Gq p l e R s m args below meth c D A nL Q ws' cells slots pc lv st) : Gq p l e R s m args below meth c D A nL Q ws cells slots pc lv st := by
  subst hws; subst hw'
  intro H locs ls hP hD hS hl
  refine kk H locs ls ?_ ?_ hS hl
  · rw [vpm] at hP ⊢
    intro q hq
    rcases List.mem_append.mp hq with h | h
    · exact hP q (List.mem_append_left _ h)
    · rcases List.mem_cons.mp h with h | h
      · subst h
        exact he H (hP (a, e) (List.mem_append_right _ List.mem_cons_self))
      · exact hP q (List.mem_append_right _ (List.mem_cons_of_mem _ h))
  · rw [vdm] at hD ⊢
    refine ⟨?_, fun q hq => ?_⟩
    · have := hD.1
      simp only [List.map_append, List.map_cons] at this ⊢
      exact this
    · rcases List.mem_append.mp hq with h | h
      · exact hD.2 q (List.mem_append_left _ h)
      · rcases List.mem_cons.mp h with h | h
        · subst h
          exact hD.2 (a, e) (List.mem_append_right _ List.mem_cons_self)
        · exact hD.2 q (List.mem_append_right _ (List.mem_cons_of_mem _ h))
theorem cell_i {cA : ClassId} {n : Nat} {f g : Nat → Int32} (h : ∀ k, k < n → f k = g k) : vp_cell cA (n, .inl f) = vp_cell cA (n, .inl g) := by
  rw [vp_cell_i, vp_cell_i]
  unfold arrV
  congr 1
  congr 1
  funext j
  rw [h j.val j.isLt]
end GS
theorem up2_v (b : S2) (k j : Nat) (v : Int32) (k' j' : Nat) : up2 b k j v k' j' = if k' = k ∧ j' = j then v else b k' j' := by
  unfold up2
  by_cases h : k' = k
  · subst h
    rw [Nat.beq_refl]
    simp [upd]
  · have h1 : Nat.beq k' k = false := by
      cases h2 : Nat.beq k' k
      · rfl
      · exact absurd (Nat.eq_of_beq_eq_true h2) h
    rw [h1]
    simp [h]
theorem up2_e {b : S2} {k j k' j' : Nat} {v : Int32} (h : k' = k ∧ j' = j) : up2 b k j v k' j' = v := by rw [up2_v, if_pos h]
theorem up2_n {b : S2} {k j k' j' : Nat} {v : Int32} (h : ¬ (k' = k ∧ j' = j)) : up2 b k j v k' j' = b k' j' := by rw [up2_v, if_neg h]
theorem up2_c {b : S2} {k j k' : Nat} {v : Int32} (h : k' ≠ k) : up2 b k j v k' = b k' := by
  funext j'
  exact up2_n (fun g => h g.1)
abbrev SC : Type := Nat × Nat × (Nat → Int32)
/-! Sim: its numbers 0 0 to 0 2, how many travellers 0 3, guards 0 4; a traveller's row 1 to 6, a guard's 8 to 10; h 0 0, h 0 1 the two outer rows, h 1 g, h 2 t the inner ones -/
def nT (u : S2) : Nat := (u 0 3).toNatClampNeg
def nG (u : S2) : Nat := (u 0 4).toNatClampNeg
def rwT (cyI : ClassId) (h : Nat → Nat → Nat) (u : S2) (t : Nat) : Nat × va_E := (h 2 t, .inl (cyI, 6, .inl (fun j => if j < 6 then u (j + 1) t else 0)))
def rwG (cyI : ClassId) (h : Nat → Nat → Nat) (u : S2) (t : Nat) : Nat × va_E := (h 1 t, .inl (cyI, 3, .inl (fun j => if j < 3 then u (j + 8) t else 0)))
def rQ (n : Nat) (r : Nat → Nat) : (Nat → Int32) ⊕ (Nat → Int64) ⊕ (Nat → UInt32) ⊕ (Nat → UInt64) ⊕ (Nat → Option Nat) := oQ (fun k => if k < n then some (r k) else none)
def wG (cyI : ClassId) (h : Nat → Nat → Nat) (u : S2) : va_W := (List.range (nG u)).map (rwG cyI h u)
def wT (cyI : ClassId) (h : Nat → Nat → Nat) (u : S2) : va_W := (List.range (nT u)).map (rwT cyI h u)
def wS (cyI cyJ : ClassId) (z : Nat) (h : Nat → Nat → Nat) (u : S2) : va_W := (z, .inr (2, [.int (u 0 0), .int (u 0 1), .int (u 0 2), .ref (h 0 0), .ref (h 0 1)])) :: (h 0 0, .inl (cyJ, nG u, rQ (nG u) (h 1))) :: (h 0 1, .inl (cyJ, nT u, rQ (nT u) (h 2))) :: (wG cyI h u ++ wT cyI h u)
theorem map_set {α : Type} {f : Nat → α} {n t : Nat} (ht : t < n) (v : α) : ((List.range n).map f).set t v = (List.range n).map (fun k => if k = t then v else f k) := by
  apply List.ext_getElem
  · simp
  · intro k h1 h2
    simp only [List.getElem_set, List.getElem_map, List.getElem_range]
    by_cases e : t = k
    · simp [e]
    · have : ¬ k = t := fun q => e q.symm
      simp [e, this]
theorem map_cg {α : Type} {f g : Nat → α} {n : Nat} (h : ∀ k, k < n → f k = g k) : (List.range n).map f = (List.range n).map g := List.map_congr_left (fun k hk => h k (List.mem_range.mp hk))
theorem rwT_cg {cyI : ClassId} {h : Nat → Nat → Nat} {u v : S2} {t : Nat} (e : ∀ j, j < 6 → u (j + 1) t = v (j + 1) t) : rwT cyI h u t = rwT cyI h v t := by
  unfold rwT
  have : (fun j => if j < 6 then u (j + 1) t else 0) = (fun j => if j < 6 then v (j + 1) t else 0) := by
    funext j
    by_cases hj : j < 6
    · rw [if_pos hj, if_pos hj, e j hj]
    · rw [if_neg hj, if_neg hj]
  rw [this]
theorem rwG_cg {cyI : ClassId} {h : Nat → Nat → Nat} {u v : S2} {t : Nat} (e : ∀ j, j < 3 → u (j + 8) t = v (j + 8) t) : rwG cyI h u t = rwG cyI h v t := by
  unfold rwG
  have : (fun j => if j < 3 then u (j + 8) t else 0) = (fun j => if j < 3 then v (j + 8) t else 0) := by
    funext j
    by_cases hj : j < 3
    · rw [if_pos hj, if_pos hj, e j hj]
    · rw [if_neg hj, if_neg hj]
  rw [this]
def inT (u : S2) (i : Int32) : Option Unit := if i < 0 ∨ nT u ≤ i.toNatClampNeg then none else some ()
def inG (u : S2) (i : Int32) : Option Unit := if i < 0 ∨ nG u ≤ i.toNatClampNeg then none else some ()
def ldT (u : S2) (t c : Nat) : Option Int32 := if nT u ≤ t then none else some (u (c + 1) t)
def ldG (u : S2) (t c : Nat) : Option Int32 := if nG u ≤ t then none else some (u (c + 8) t)
def stT (u : S2) (t c : Nat) (v : Int32) : Option S2 := if nT u ≤ t then none else some (up2 u (c + 1) t v)
def stG (u : S2) (t c : Nat) (v : Int32) : Option S2 := if nG u ≤ t then none else some (up2 u (c + 8) t v)
theorem inT_s {u : S2} {i : Int32} {x : Unit} (h : inT u i = some x) : vp_in i (nT u) := by
  unfold inT at h
  split at h
  · cases h
  · assumption
theorem ldT_s {u : S2} {t c : Nat} {x : Int32} (h : ldT u t c = some x) : t < nT u ∧ u (c + 1) t = x := by
  unfold ldT at h
  split at h
  · cases h
  · exact ⟨by omega, Option.some.inj h⟩
theorem stT_s {u u' : S2} {t c : Nat} {v : Int32} (h : stT u t c v = some u') : t < nT u ∧ u' = up2 u (c + 1) t v := by
  unfold stT at h
  split at h
  · cases h
  · exact ⟨by omega, (Option.some.inj h).symm⟩
theorem inG_s {u : S2} {i : Int32} {x : Unit} (h : inG u i = some x) : vp_in i (nG u) := by
  unfold inG at h
  split at h
  · cases h
  · assumption
theorem ldG_s {u : S2} {t c : Nat} {x : Int32} (h : ldG u t c = some x) : t < nG u ∧ u (c + 8) t = x := by
  unfold ldG at h
  split at h
  · cases h
  · exact ⟨by omega, Option.some.inj h⟩
theorem stG_s {u u' : S2} {t c : Nat} {v : Int32} (h : stG u t c v = some u') : t < nG u ∧ u' = up2 u (c + 8) t v := by
  unfold stG at h
  split at h
  · cases h
  · exact ⟨by omega, (Option.some.inj h).symm⟩
theorem s_tail {cyI cyJ : ClassId} {z : Nat} {h : Nat → Nat → Nat} {u : S2} (x : Nat) : (wS cyI cyJ z h u)[x + 3]? = (wG cyI h u ++ wT cyI h u)[x]? := rfl
theorem rT_at {cyI cyJ : ClassId} {z : Nat} {h : Nat → Nat → Nat} {u : S2} {wl : va_W} {t : Nat} (ht : t < nT u) : (wl ++ wS cyI cyJ z h u)[wl.length + (nG u + t + 3)]? = some (rwT cyI h u t) := by
  rw [List.getElem?_append_right (by omega), show wl.length + (nG u + t + 3) - wl.length = nG u + t + 3 by omega, s_tail, List.getElem?_append_right (by unfold wG; rw [List.length_map, List.length_range]; omega)]
  unfold wG wT
  rw [List.length_map, List.length_range, show nG u + t - nG u = t by omega, List.getElem?_map, List.getElem?_range ht]
  rfl
theorem rG_at {cyI cyJ : ClassId} {z : Nat} {h : Nat → Nat → Nat} {u : S2} {wl : va_W} {t : Nat} (ht : t < nG u) : (wl ++ wS cyI cyJ z h u)[wl.length + (t + 3)]? = some (rwG cyI h u t) := by
  rw [List.getElem?_append_right (by omega), show wl.length + (t + 3) - wl.length = t + 3 by omega, s_tail, List.getElem?_append_left (by unfold wG; rw [List.length_map, List.length_range]; omega)]
  unfold wG
  rw [List.getElem?_map, List.getElem?_range ht]
  rfl
theorem s_set {cyI cyJ : ClassId} {z : Nat} {h : Nat → Nat → Nat} {u : S2} (x : Nat) (e : Nat × va_E) : (wS cyI cyJ z h u).set (x + 3) e = (z, .inr (2, [.int (u 0 0), .int (u 0 1), .int (u 0 2), .ref (h 0 0), .ref (h 0 1)])) :: (h 0 0, .inl (cyJ, nG u, rQ (nG u) (h 1))) :: (h 0 1, .inl (cyJ, nT u, rQ (nT u) (h 2))) :: (wG cyI h u ++ wT cyI h u).set x e := rfl
theorem s_mk {cyI cyJ : ClassId} {z : Nat} {h : Nat → Nat → Nat} {u u' : S2} {X : va_W} (h0 : ∀ j, j < 5 → u' 0 j = u 0 j) (hX : X = wG cyI h u' ++ wT cyI h u') : (z, va_E.inr (2, [Value.int (u 0 0), .int (u 0 1), .int (u 0 2), .ref (h 0 0), .ref (h 0 1)])) :: (h 0 0, .inl (cyJ, nG u, rQ (nG u) (h 1))) :: (h 0 1, .inl (cyJ, nT u, rQ (nT u) (h 2))) :: X = wS cyI cyJ z h u' := by
  have a : nT u' = nT u := by unfold nT; rw [h0 3 (by omega)]
  have b : nG u' = nG u := by unfold nG; rw [h0 4 (by omega)]
  unfold wS
  rw [hX, a, b, h0 0 (by omega), h0 1 (by omega), h0 2 (by omega)]
theorem rT_set {cyI cyJ : ClassId} {z : Nat} {h : Nat → Nat → Nat} {u : S2} {wl : va_W} {t c : Nat} {v : Int32} (ht : t < nT u) (hc : c < 6) : (wl ++ wS cyI cyJ z h u).set (wl.length + (nG u + t + 3)) (h 2 t, .inl (cyI, 6, .inl (upd (fun j => if j < 6 then u (j + 1) t else 0) c v))) = wl ++ wS cyI cyJ z h (up2 u (c + 1) t v) := by
  have h0 : ∀ j, j < 5 → up2 u (c + 1) t v 0 j = u 0 j := fun j _ => up2_n (by omega)
  have a : nT (up2 u (c + 1) t v) = nT u := by unfold nT; rw [h0 3 (by omega)]
  have b : nG (up2 u (c + 1) t v) = nG u := by unfold nG; rw [h0 4 (by omega)]
  rw [List.set_append_right _ _ (by omega), show wl.length + (nG u + t + 3) - wl.length = nG u + t + 3 by omega, s_set]
  congr 1
  refine s_mk h0 ?_
  rw [List.set_append_right _ _ (by unfold wG; rw [List.length_map, List.length_range]; omega)]
  unfold wG wT
  rw [List.length_map, List.length_range, show nG u + t - nG u = t by omega, a, b, map_set ht]
  congr 1
  · exact map_cg (fun k _ => rwG_cg (fun j hj => (up2_n (by omega)).symm))
  · refine map_cg (fun k _ => ?_)
    by_cases e : k = t
    · subst e
      rw [if_pos rfl]
      unfold rwT
      have : upd (fun j => if j < 6 then u (j + 1) k else 0) c v = (fun j => if j < 6 then up2 u (c + 1) k v (j + 1) k else 0) := by
        funext j
        by_cases ej : j = c
        · subst ej
          rw [if_pos hc, up2_e ⟨rfl, rfl⟩]
          exact if_pos rfl
        · show (if j = c then v else _) = _
          rw [if_neg ej]
          by_cases hj : j < 6
          · rw [if_pos hj, if_pos hj, up2_n (by omega)]
          · rw [if_neg hj, if_neg hj]
      rw [this]
    · rw [if_neg e]
      exact rwT_cg (fun j hj => (up2_n (by omega)).symm)
theorem rG_set {cyI cyJ : ClassId} {z : Nat} {h : Nat → Nat → Nat} {u : S2} {wl : va_W} {t c : Nat} {v : Int32} (ht : t < nG u) (hc : c < 3) : (wl ++ wS cyI cyJ z h u).set (wl.length + (t + 3)) (h 1 t, .inl (cyI, 3, .inl (upd (fun j => if j < 3 then u (j + 8) t else 0) c v))) = wl ++ wS cyI cyJ z h (up2 u (c + 8) t v) := by
  have h0 : ∀ j, j < 5 → up2 u (c + 8) t v 0 j = u 0 j := fun j _ => up2_n (by omega)
  have a : nT (up2 u (c + 8) t v) = nT u := by unfold nT; rw [h0 3 (by omega)]
  have b : nG (up2 u (c + 8) t v) = nG u := by unfold nG; rw [h0 4 (by omega)]
  rw [List.set_append_right _ _ (by omega), show wl.length + (t + 3) - wl.length = t + 3 by omega, s_set]
  congr 1
  refine s_mk h0 ?_
  rw [List.set_append_left _ _ (by unfold wG; rw [List.length_map, List.length_range]; omega)]
  unfold wG wT
  rw [a, b, map_set ht]
  congr 1
  · refine map_cg (fun k _ => ?_)
    by_cases e : k = t
    · subst e
      rw [if_pos rfl]
      unfold rwG
      have : upd (fun j => if j < 3 then u (j + 8) k else 0) c v = (fun j => if j < 3 then up2 u (c + 8) k v (j + 8) k else 0) := by
        funext j
        by_cases ej : j = c
        · subst ej
          rw [if_pos hc, up2_e ⟨rfl, rfl⟩]
          exact if_pos rfl
        · show (if j = c then v else _) = _
          rw [if_neg ej]
          by_cases hj : j < 3
          · rw [if_pos hj, if_pos hj, up2_n (by omega)]
          · rw [if_neg hj, if_neg hj]
      rw [this]
    · rw [if_neg e]
      exact rwG_cg (fun j hj => (up2_n (by omega)).symm)
  · exact map_cg (fun k _ => rwT_cg (fun j hj => (up2_n (by omega)).symm))
/-- a number of the object itself -/
theorem rS_set {cyI cyJ : ClassId} {z : Nat} {h : Nat → Nat → Nat} {u : S2} {wl : va_W} {k : Nat} {v : Int32} (hk : k < 3) : (wl ++ wS cyI cyJ z h u).set wl.length (z, .inr (2, ([.int (u 0 0), .int (u 0 1), .int (u 0 2), .ref (h 0 0), .ref (h 0 1)] : List Value).set k (.int v))) = wl ++ wS cyI cyJ z h (up2 u 0 k v) := by
  have a : nT (up2 u 0 k v) = nT u := by unfold nT; rw [up2_n (by omega)]
  have b : nG (up2 u 0 k v) = nG u := by unfold nG; rw [up2_n (by omega)]
  have hG : wG cyI h (up2 u 0 k v) = wG cyI h u := by
    unfold wG
    rw [b]
    exact map_cg (fun k _ => rwG_cg (fun j hj => up2_n (by omega)))
  have hT : wT cyI h (up2 u 0 k v) = wT cyI h u := by
    unfold wT
    rw [a]
    exact map_cg (fun k _ => rwT_cg (fun j hj => up2_n (by omega)))
  rw [List.set_append_right _ _ (Nat.le_refl _), Nat.sub_self]
  congr 1
  unfold wS
  rw [hG, hT, a, b]
  match k, hk with
  | 0, _ => rfl
  | 1, _ => rfl
  | 2, _ => rfl
section GT
variable {ss : Ev} {p : Program} {l : Launch} {e : Env} {R : Room} {s : State} {m : MethodId} {args : Array Value} {below : List Frame} {meth : Method} {c : Code} {Q : State → Prop}
variable {D : va_G} {A : Nat → Prop} {tys : List (ClassId × FieldType)} {Ts : List Cond} {own : String} {cc : ByteArray} {nL : Nat} {tb : List ExceptionTableEntry} {ws ws' : va_W} {cells slots pc q : Nat} {lv lv' : List (Nat × Value)} {st : List Value}
theorem g_rldT (C : Cx ss p l s m args meth c cc nL Ts own D tys A tb) {wl : va_W} {cyI cyJ : ClassId} {z : Nat} {h : Nat → Nat → Nat} {u : S2} {t : Nat} {ci x : Int32} (cn t0 : Nat) (ht0 : tys[t0]? = some (cyI, .int)) (hws : ws = wl ++ wS cyI cyJ z h u) (hc : ci.toNatClampNeg = cn ∧ vp_in ci 6) (hld : ldT u t cn = some x) (d : decode cc pc = .ok (.iaload, 1)) (q : Nat) (hq : pc + 1 = q) (kk : Gq p l e R s m args below meth c D A nL Q (wl ++ wS cyI cyJ z h u) cells slots q lv (.int x :: st)) : Gq p l e R s m args below meth c D A nL Q ws cells slots pc lv (.int ci :: .ref (h 2 t) :: st) := by
  subst hws
  obtain ⟨ht, hx⟩ := ldT_s hld
  obtain ⟨h1, h2⟩ := hc
  have hcn : cn < 6 := by rw [← h1]; exact Nat.not_le.mp fun q => h2 (Or.inr q)
  refine g_iald C (f := fun j => if j < 6 then u (j + 1) t else 0) (wl.length + (nG u + t + 3)) t0 (rT_at ht) ht0 ?_ d q hq kk
  unfold ldA
  rw [if_neg h2, h1, if_pos hcn, hx]
theorem g_rstT (C : Cx ss p l s m args meth c cc nL Ts own D tys A tb) {wl : va_W} {cyI cyJ : ClassId} {z : Nat} {h : Nat → Nat → Nat} {u u' : S2} {t : Nat} {ci v : Int32} (cn t0 : Nat) (ht0 : tys[t0]? = some (cyI, .int)) (hws : ws = wl ++ wS cyI cyJ z h u) (hc : ci.toNatClampNeg = cn ∧ vp_in ci 6) (hst : stT u t cn v = some u') (d : decode cc pc = .ok (.iastore, 1)) (q : Nat) (hq : pc + 1 = q) (kk : Gq p l e R s m args below meth c D A nL Q (wl ++ wS cyI cyJ z h u') cells slots q lv st) : Gq p l e R s m args below meth c D A nL Q ws cells slots pc lv (.int v :: .int ci :: .ref (h 2 t) :: st) := by
  subst hws
  obtain ⟨ht, hx⟩ := stT_s hst
  obtain ⟨h1, h2⟩ := hc
  have hcn : cn < 6 := by rw [← h1]; exact Nat.not_le.mp fun q => h2 (Or.inr q)
  subst hx
  refine g_iast C (f := fun j => if j < 6 then u (j + 1) t else 0) (wl.length + (nG u + t + 3)) t0 (rT_at ht) ht0 h2 ?_ d q hq kk
  rw [h1]
  exact rT_set ht hcn
theorem g_aaT (C : Cx ss p l s m args meth c cc nL Ts own D tys A tb) {wl : va_W} {cyI cyJ : ClassId} {z : Nat} {h : Nat → Nat → Nat} {u : S2} {i : Int32} {x : Unit} (t0 : Nat) (ht0 : tys[t0]? = some (cyJ, .array .int)) (hws : ws = wl ++ wS cyI cyJ z h u) (hin : inT u i = some x) (d : decode cc pc = .ok (.aaload, 1)) (q : Nat) (hq : pc + 1 = q) (kk : Gq p l e R s m args below meth c D A nL Q (wl ++ wS cyI cyJ z h u) cells slots q lv (.ref (h 2 i.toNatClampNeg) :: st)) : Gq p l e R s m args below meth c D A nL Q ws cells slots pc lv (.int i :: .ref (h 0 1) :: st) := by
  subst hws
  have h1 := inT_s hin
  have hlt : i.toNatClampNeg < nT u := Nat.not_le.mp fun q => h1 (Or.inr q)
  refine g_aald C (n := nT u) (f := fun k => if k < nT u then some (h 2 k) else none) (wl.length + 2) t0 ?_ ht0 h1 (if_pos hlt) d q hq kk
  rw [List.getElem?_append_right (by omega), show wl.length + 2 - wl.length = 2 by omega]
  rfl
theorem g_rldG (C : Cx ss p l s m args meth c cc nL Ts own D tys A tb) {wl : va_W} {cyI cyJ : ClassId} {z : Nat} {h : Nat → Nat → Nat} {u : S2} {t : Nat} {ci x : Int32} (cn t0 : Nat) (ht0 : tys[t0]? = some (cyI, .int)) (hws : ws = wl ++ wS cyI cyJ z h u) (hc : ci.toNatClampNeg = cn ∧ vp_in ci 3) (hld : ldG u t cn = some x) (d : decode cc pc = .ok (.iaload, 1)) (q : Nat) (hq : pc + 1 = q) (kk : Gq p l e R s m args below meth c D A nL Q (wl ++ wS cyI cyJ z h u) cells slots q lv (.int x :: st)) : Gq p l e R s m args below meth c D A nL Q ws cells slots pc lv (.int ci :: .ref (h 1 t) :: st) := by
  subst hws
  obtain ⟨ht, hx⟩ := ldG_s hld
  obtain ⟨h1, h2⟩ := hc
  have hcn : cn < 3 := by rw [← h1]; exact Nat.not_le.mp fun q => h2 (Or.inr q)
  refine g_iald C (f := fun j => if j < 3 then u (j + 8) t else 0) (wl.length + (t + 3)) t0 (rG_at ht) ht0 ?_ d q hq kk
  unfold ldA
  rw [if_neg h2, h1, if_pos hcn, hx]
theorem g_rstG (C : Cx ss p l s m args meth c cc nL Ts own D tys A tb) {wl : va_W} {cyI cyJ : ClassId} {z : Nat} {h : Nat → Nat → Nat} {u u' : S2} {t : Nat} {ci v : Int32} (cn t0 : Nat) (ht0 : tys[t0]? = some (cyI, .int)) (hws : ws = wl ++ wS cyI cyJ z h u) (hc : ci.toNatClampNeg = cn ∧ vp_in ci 3) (hst : stG u t cn v = some u') (d : decode cc pc = .ok (.iastore, 1)) (q : Nat) (hq : pc + 1 = q) (kk : Gq p l e R s m args below meth c D A nL Q (wl ++ wS cyI cyJ z h u') cells slots q lv st) : Gq p l e R s m args below meth c D A nL Q ws cells slots pc lv (.int v :: .int ci :: .ref (h 1 t) :: st) := by
  subst hws
  obtain ⟨ht, hx⟩ := stG_s hst
  obtain ⟨h1, h2⟩ := hc
  have hcn : cn < 3 := by rw [← h1]; exact Nat.not_le.mp fun q => h2 (Or.inr q)
  subst hx
  refine g_iast C (f := fun j => if j < 3 then u (j + 8) t else 0) (wl.length + (t + 3)) t0 (rG_at ht) ht0 h2 ?_ d q hq kk
  rw [h1]
  exact rG_set ht hcn
theorem g_aaG (C : Cx ss p l s m args meth c cc nL Ts own D tys A tb) {wl : va_W} {cyI cyJ : ClassId} {z : Nat} {h : Nat → Nat → Nat} {u : S2} {i : Int32} {x : Unit} (t0 : Nat) (ht0 : tys[t0]? = some (cyJ, .array .int)) (hws : ws = wl ++ wS cyI cyJ z h u) (hin : inG u i = some x) (d : decode cc pc = .ok (.aaload, 1)) (q : Nat) (hq : pc + 1 = q) (kk : Gq p l e R s m args below meth c D A nL Q (wl ++ wS cyI cyJ z h u) cells slots q lv (.ref (h 1 i.toNatClampNeg) :: st)) : Gq p l e R s m args below meth c D A nL Q ws cells slots pc lv (.int i :: .ref (h 0 0) :: st) := by
  subst hws
  have h1 := inG_s hin
  have hlt : i.toNatClampNeg < nG u := Nat.not_le.mp fun q => h1 (Or.inr q)
  refine g_aald C (n := nG u) (f := fun k => if k < nG u then some (h 1 k) else none) (wl.length + 1) t0 ?_ ht0 h1 (if_pos hlt) d q hq kk
  rw [List.getElem?_append_right (by omega), show wl.length + 1 - wl.length = 1 by omega]
  rfl
end GT
end
