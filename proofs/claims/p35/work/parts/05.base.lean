/-! BASE: closed judgements over moving worlds (Gq: at an instruction; Gx: with an exception over it), contracts (Ct), a row an instruction. -/
theorem vpm {D : va_G} {cl : List vw_C} {ws : va_W} {H : Heap} : va_P D cl ws H ↔ ∀ q ∈ ws, va_at D cl q H := by
  constructor
  · intro h q hq
    obtain ⟨k, hk⟩ := List.getElem?_of_mem hq
    exact h k q hk
  · intro h k q hk
    exact h q (List.mem_of_getElem? hk)
theorem vdm {A : Nat → Prop} {ws : va_W} : va_D A ws ↔ (ws.map (fun q => q.1)).Nodup ∧ ∀ q ∈ ws, A q.1 := by
  constructor
  · intro h
    refine ⟨?_, fun q hq => ?_⟩
    · rw [List.Nodup, List.pairwise_iff_getElem]
      intro i j hi hj hij he
      rw [List.getElem_map, List.getElem_map] at he
      have hi' : i < ws.length := by simpa using hi
      have hj' : j < ws.length := by simpa using hj
      have := h.1 i j _ _ (List.getElem?_eq_getElem hi') (List.getElem?_eq_getElem hj') he
      omega
    · obtain ⟨k, hk⟩ := List.getElem?_of_mem hq
      exact h.2 k q hk
  · intro h
    refine ⟨fun i j p q hi hj he => ?_, fun k q hk => h.2 q (List.mem_of_getElem? hk)⟩
    obtain ⟨hi1, hi2⟩ := List.getElem?_eq_some_iff.mp hi
    obtain ⟨hj1, hj2⟩ := List.getElem?_eq_some_iff.mp hj
    have hn := h.1
    rw [List.Nodup, List.pairwise_iff_getElem] at hn
    rcases Nat.lt_trichotomy i j with g | g | g
    · exact absurd (by rw [List.getElem_map, List.getElem_map, hi2, hj2]; exact he) (hn i j (by simpa using hi1) (by simpa using hj1) g)
    · exact g
    · exact absurd (by rw [List.getElem_map, List.getElem_map, hi2, hj2]; exact he.symm) (hn j i (by simpa using hj1) (by simpa using hi1) g)
theorem vp_app {D : va_G} {cl : List vw_C} {a b : va_W} {H : Heap} : va_P D cl (a ++ b) H ↔ va_P D cl a H ∧ va_P D cl b H := by
  simp only [vpm, List.mem_append]
  exact ⟨fun h => ⟨fun q hq => h q (Or.inl hq), fun q hq => h q (Or.inr hq)⟩, fun h q hq => hq.elim (h.1 q) (h.2 q)⟩
theorem vd_app {A : Nat → Prop} {a b : va_W} : va_D A (a ++ b) ↔ va_D A a ∧ va_D A b ∧ ∀ p ∈ a, ∀ q ∈ b, p.1 ≠ q.1 := by
  simp only [vdm, List.map_append, List.nodup_append, List.mem_append, List.mem_map]
  constructor
  · rintro ⟨⟨h1, h2, h3⟩, h4⟩
    exact ⟨⟨h1, fun q hq => h4 q (Or.inl hq)⟩, ⟨h2, fun q hq => h4 q (Or.inr hq)⟩, fun p hp q hq => h3 _ ⟨p, hp, rfl⟩ _ ⟨q, hq, rfl⟩⟩
  · rintro ⟨⟨h1, h2⟩, ⟨h3, h4⟩, h5⟩
    refine ⟨⟨h1, h3, ?_⟩, fun q hq => hq.elim (h2 q) (h4 q)⟩
    rintro x ⟨p, hp, rfl⟩ y ⟨q, hq, rfl⟩
    exact h5 p hp q hq
theorem va_Am {ws : va_W} {sz q : Nat} : va_A ws sz q ↔ (∃ e ∈ ws, e.1 = q) ∨ sz ≤ q := by
  constructor
  · rintro (⟨k, e, h⟩ | h)
    · exact Or.inl ⟨_, List.mem_of_getElem? h, rfl⟩
    · exact Or.inr h
  · rintro (⟨e, h, rfl⟩ | h)
    · obtain ⟨k, hk⟩ := List.getElem?_of_mem h
      exact Or.inl ⟨k, e.2, hk⟩
    · exact Or.inr h
/-- behind a call: the callee's cells stand between the caller's others -/
theorem jn {A : Nat → Prop} {D : va_G} {cl : List vw_C} {wl wc wr w1 : va_W} {H H1 : Heap} (hP : va_P D cl (wl ++ (wc ++ wr)) H) (hD : va_D A (wl ++ (wc ++ wr)))
    (hk : ∀ q : Nat, q < H.size → ¬ va_A wc H.size q → H1[q]? = H[q]?) (hF : ∀ q, va_A wc H.size q → A q) (hP1 : va_P D cl w1 H1) (hD1 : va_D (va_A wc H.size) w1) : va_P D cl (wl ++ (w1 ++ wr)) H1 ∧ va_D A (wl ++ (w1 ++ wr)) := by
  obtain ⟨pl, pcr⟩ := vp_app.mp hP
  obtain ⟨pc, pr⟩ := vp_app.mp pcr
  obtain ⟨dl, dcr, dx⟩ := vd_app.mp hD
  obtain ⟨dc, dr, dy⟩ := vd_app.mp dcr
  have lt : ∀ {w : va_W}, va_P D cl w H → ∀ q ∈ w, q.1 < H.size := fun h q hq => (vpm.mp h q hq).lt
  have nl : ∀ q ∈ wl, ¬ va_A wc H.size q.1 := by
    intro q hq h
    rcases va_Am.mp h with ⟨e, he, h1⟩ | h
    · exact dx q hq e (List.mem_append_left _ he) h1.symm
    · exact absurd (lt pl q hq) (by omega)
  have nr : ∀ q ∈ wr, ¬ va_A wc H.size q.1 := by
    intro q hq h
    rcases va_Am.mp h with ⟨e, he, h1⟩ | h
    · exact dy e he q hq h1
    · exact absurd (lt pr q hq) (by omega)
  have kp : ∀ {w : va_W}, va_P D cl w H → (∀ q ∈ w, ¬ va_A wc H.size q.1) → va_P D cl w H1 := by
    intro w h hn
    rw [vpm] at h ⊢
    intro q hq
    exact (h q hq).kept (hk q.1 (h q hq).lt (hn q hq))
  have in1 : ∀ q ∈ w1, va_A wc H.size q.1 := (vdm.mp hD1).2
  refine ⟨vp_app.mpr ⟨kp pl nl, vp_app.mpr ⟨hP1, kp pr nr⟩⟩, vd_app.mpr ⟨dl, vd_app.mpr ⟨vdm.mpr ⟨(vdm.mp hD1).1, fun q hq => hF _ (in1 q hq)⟩, dr, ?_⟩, ?_⟩⟩
  · intro p hp q hq he
    exact nr q hq (by rw [← he]; exact in1 p hp)
  · intro p hp q hq he
    rcases List.mem_append.mp hq with h | h
    · exact nl p hp (by rw [he]; exact in1 q h)
    · exact dx p hp q (List.mem_append_right _ h) he
/-- the exceptions that the class throws, by a number -/
def xn (n : Nat) : String := match n with
  | 1 => "java/lang/IllegalStateException"
  | 2 => "java/lang/IllegalArgumentException"
  | _ => "java/lang/IndexOutOfBoundsException"
/-- what of the tables doesn't keep by itself, and what a throw needs of the heap -/
def ev_w : List Cond := [.castable (xn 1) (xn 1), .castable (xn 2) (xn 2), .castable (xn 3) (xn 3), .methodLinkNest RX1 9 yX0_init RX1, .methodLinkNest RL 54 yX2_init RL, .declares (Bundle.initS "java/lang/RuntimeException"), .declares (Bundle.initS "java/lang/Exception"), .declares (Bundle.initS Bundle.tN)]
def ev_n : List (String × String) := []
/-- the texts that the class throws; the script's place, length and numbers -/
abbrev Ev : Type := List (String × Nat × String) × (Nat × Nat × (Nat → Int32))
/-- rows of rows have been made before -/
def AOA (U : State) : Prop := (Cond.arrayOver (.array .int)).before #[] U = true
theorem AOA.moved {u U : State} (hvm : u.vm.Alike U.vm) (h : AOA u) : AOA U := by
  obtain ⟨comp, c, k, h1, h2, h3, h4, h5⟩ := arrayOverA_spec h
  obtain ⟨k', hk', he⟩ := hvm.2.2 _ _ h3
  have hi : (U.vm.classes.findIdx? fun (x : Class) => match x.kind with | .array component _ => component == comp | _ => false) = some c := by
    rw [hvm.findIdx?_eq _ (fun _ => rfl)]
    exact h2
  have hkind : k'.kind = .array comp (.array .int) := by rw [he]; exact h4
  have f1 : U.vm.findClass (FieldType.array .int).toString = some comp := by rw [hvm.findClass]; exact h1
  have f2 : U.vm.findClass ("[" ++ (FieldType.array .int).toString) = some c := by rw [hvm.findClass]; exact h5
  unfold AOA Cond.before Cond.holds
  simp only [Cond.value]
  rw [f1, Option.bind_some]
  refine (congrArg (fun o : Option Nat => (o.bind (fun c => (U.vm.classes[c]?).map fun (k : Class) => match k.kind with | .array _ ty => decide (ty = FieldType.array .int) && decide (U.vm.findClass ("[" ++ (FieldType.array .int).toString) = some c) | _ => false) == some true)) hi).trans ?_
  simp [hk', hkind, f2]
/-- the script stands where it stood, and isn't ours -/
def Scr (x : Nat × Nat × (Nat → Int32)) (A : Nat → Prop) (U : State) : Prop := va_X x.1 x.2.1 x.2.2 U U.heap ∧ x.1 < U.heap.size ∧ ¬ A x.1
def Env9 (ss : Ev) (A : Nat → Prop) (U : State) : Prop :=
  vx_Zq Bundle.tN "UNASSIGNED_STACK" Bundle.steD A U U.heap ∧ vx_Zq Bundle.tN "SUPPRESSED_SENTINEL" Bundle.listD A U U.heap ∧ (∀ w ∈ ev_w, va_Nw w U) ∧ (∀ q ∈ ss.1, ∃ a, vk_R q.1 q.2.1 q.2.2 a U) ∧ (∀ q ∈ ev_n, va_Nc q.1 q.2 U) ∧ AOA U ∧ Scr ss.2 A U
theorem ev_on : ∀ w ∈ ev_w, w.onTables = true := by decide +kernel
theorem Env9.same {ss : Ev} {A : Nat → Prop} {u U : State} (hv : u.vm = U.vm) (hh : u.heap = U.heap) (h : Env9 ss A u) : Env9 ss A U := by
  obtain ⟨h1, h2, h3, h4, h5, h6, ⟨scr, x1, x2, x3⟩, x4, x5⟩ := h
  have al : u.vm.Alike U.vm := by rw [hv]; exact Vm.Alike.refl _
  refine ⟨by rw [← hh]; exact h1.moved al, by rw [← hh]; exact h2.moved al, fun w hw => (h3 w hw).same (ev_on w hw) hv, fun q hq => ?_, fun q hq => (h5 q hq).moved al, h6.moved al, ⟨scr, by rw [← hh]; exact x1, State.isArrayOf_alike al x2, x3⟩, by rw [← hh]; exact x4, x5⟩
  obtain ⟨a, ha⟩ := h4 q hq
  exact ⟨a, vk_R.same hv.symm ha⟩
theorem ev_warm {s U : State} (hW : s.WarmedH U.vm) : ∀ w ∈ ev_w, va_Nw w s → va_Nw w U := by
  intro w hw
  simp only [ev_w, List.mem_cons, List.not_mem_nil, or_false] at hw
  rcases hw with rfl | rfl | rfl | rfl | rfl | rfl | rfl | rfl
  · exact va_Nw.warmC hW
  · exact va_Nw.warmC hW
  · exact va_Nw.warmC hW
  · exact va_Nw.warmM hW
  · exact va_Nw.warmM hW
  · exact va_Nw.warmD hW
  · exact va_Nw.warmD hW
  · exact va_Nw.warmD hW
theorem Env9.call {ss : Ev} {A B : Nat → Prop} {s U : State} {H : Heap} {locs : List Loc} (h : Env9 ss A s) (hS : va_S A s.heap H locs) (hU : U.heap = H) (hW : s.WarmedH U.vm) (hF : ∀ q, B q → A q) : Env9 ss B U := by
  obtain ⟨h1, h2, h3, h4, h5, h6, ⟨scr, x1, x2, x3⟩, x4, x5⟩ := h
  refine ⟨?_, ?_, fun w hw => ev_warm hW w hw (h3 w hw), fun q hq => ?_, fun q hq => (h5 q hq).moved hW.alike, h6.moved hW.alike, ⟨scr, ?_, State.isArrayOf_alike hW.alike x2, x3⟩, ?_, fun q => x5 (hF _ q)⟩
  · rw [hU]
    exact ((h1.kept (fun a ha hn => hS.2.1 a ha hn)).narrow hF).moved hW.alike
  · rw [hU]
    exact ((h2.kept (fun a ha hn => hS.2.1 a ha hn)).narrow hF).moved hW.alike
  · obtain ⟨a, ha⟩ := h4 q hq
    exact ⟨a, vk_R.warm hW ha⟩
  · rw [hU, hS.2.1 _ x4 x5]
    exact x1
  · rw [hU]
    exact Nat.lt_of_lt_of_le x4 hS.1
/-- what a call may come to: an exception by its number, or an answer and a world -/
abbrev Oc : Type := Nat ⊕ (Option Value × va_W)
def CtR (D : va_G) (Rr : Oc → Prop) (A : Nat → Prop) : Array Value → State → Outcome → State → Prop := fun _ st oc t => (∃ rv W1, Rr (.inr (rv, W1)) ∧ oc = .returned rv ∧ va_P D vwCl W1 t.heap ∧ va_D A W1) ∧ va_F A st t
def CtX (D : va_G) (W0 : va_W) (Rr : Oc → Prop) (A : Nat → Prop) : String → State → State → Prop := fun E st t => (∃ n, Rr (.inl n) ∧ E = xn n ∧ va_P D vwCl W0 t.heap ∧ va_D A W0) ∧ va_F A st t
def CtP (ss : Ev) (D : va_G) (tys : List (ClassId × FieldType)) (W0 : va_W) (sz : Nat) (U : State) : Prop := U.heap.size = sz ∧ va_P D vwCl W0 U.heap ∧ va_K D vwCl tys U ∧ va_D (fun _ => True) W0 ∧ Env9 ss (va_A W0 sz) U
/-- a method's contract: from the world W0 it comes to an outcome of which Rr holds -/
def Ct (ss : Ev) (l : Launch) (y : MethodName) (ws : List Cond) (rm : Room) (D : va_G) (tys : List (ClassId × FieldType)) (As : List Value) (W0 : va_W) (Rr : Oc → Prop) (mc ms : Nat) : Prop :=
  ∀ sz, vx_Met l y ws rm (va_Pc As (CtP ss D tys W0 sz)) (CtR D Rr (va_A W0 sz)) (CtX D W0 Rr (va_A W0 sz)) mc ms (va_A W0 sz)
/-- a method's plain facts, for its callers -/
def CF (y : MethodName) (ws : List Cond) (rm : Room) (bytes : ByteArray) (maxL : Nat) (ret : Option FieldType) (n mc ms : Nat) (Cn : String) : Prop :=
  (∃ ws', ws = Cond.code y bytes maxL ret :: ws') ∧ rm.cells = mc ∧ rm.slots = ms ∧ y.cls = Cn ∧ y.cls ≠ "java/lang/invoke/MethodHandle" ∧ y.cls ≠ "java/lang/invoke/VarHandle" ∧ (parseMethodDescriptor y.desc).map (fun d => d.parameters.length) = some n
section GB
variable {ss : Ev} {p : Program} {l : Launch} {e : Env} {R : Room} {s : State} {m : MethodId} {args : Array Value} {below : List Frame} {meth : Method} {c : Code} {Q : State → Prop}
variable {D : va_G} {A : Nat → Prop} {tys : List (ClassId × FieldType)} {Ts : List Cond} {own : String} {cc : ByteArray} {nL : Nat} {tb : List ExceptionTableEntry} {ws ws' : va_W} {cells slots pc q : Nat} {lv lv' : List (Nat × Value)} {st : List Value}
/-- at an instruction, the world and the known locals -/
def Gq (p : Program) (l : Launch) (e : Env) (R : Room) (s : State) (m : MethodId) (args : Array Value) (below : List Frame) (meth : Method) (c : Code) (D : va_G) (A : Nat → Prop) (nL : Nat) (Q : State → Prop) (ws : va_W) (cells slots pc : Nat) (lv : List (Nat × Value)) (st : List Value) : Prop :=
  ∀ (H : Heap) (locs : List Loc) (ls : Array Slot), va_P D vwCl ws H → va_D A ws → va_S A s.heap H locs → lv_has ls nL lv → W p l e R s m args below meth c H locs cells slots Q (F0 m pc ls st)
/-- .. with the exception n thrown there -/
def Gx (p : Program) (l : Launch) (e : Env) (R : Room) (s : State) (m : MethodId) (args : Array Value) (below : List Frame) (meth : Method) (c : Code) (D : va_G) (A : Nat → Prop) (nL : Nat) (Q : State → Prop) (ws : va_W) (cells slots pc : Nat) (lv : List (Nat × Value)) (n : Nat) : Prop :=
  ∀ (H : Heap) (locs : List Loc) (ls : Array Slot) (rest : List Value) (q : Nat) (ce : Cell), va_P D vwCl ws H → va_D A ws → va_S A s.heap H locs → lv_has ls nL lv → H[q]? = some ce → ce.vm = .none → s.vm.findClass (xn n) = some ce.cls → vx_W p l e R s m args below meth c H locs cells slots Q (F0 m pc ls rest) q
/-- what stays in a method's walk -/
def Cx (ss : Ev) (p : Program) (l : Launch) (s : State) (m : MethodId) (args : Array Value) (meth : Method) (c : Code) (cc : ByteArray) (nL : Nat) (Ts : List Cond) (own : String) (D : va_G) (tys : List (ClassId × FieldType)) (A : Nat → Prop) (tb : List ExceptionTableEntry) : Prop :=
  p.tables.exec = Jvm.exec ∧ c.code = cc ∧ c.maxLocals = nL ∧ s.vm.findClass own = some m.cls ∧ (∀ w ∈ Ts, w.before args s = true) ∧ va_K D vwCl tys s ∧ (∀ q, s.heap.size ≤ q → A q) ∧ meth.locks = false ∧ Env9 ss A s ∧ c.exceptionTable.toList = tb ∧ l.stackTraces = false
theorem Cx.w (C : Cx ss p l s m args meth c cc nL Ts own D tys A tb) (w : Cond) (h : w ∈ Ts) : w.before args s = true := C.2.2.2.2.1 w h
/-- what a body owes at its end -/
def CQ (below : List Frame) (D : va_G) (W0 : va_W) (Rr : Oc → Prop) (args : Array Value) (s : State) (mc ms : Nat) (A : Nat → Prop) : State → Prop := vx_MQ below (CtR D Rr A) (CtX D W0 Rr A) args s mc ms A
theorem ct_of {y : MethodName} {ws ws' : List Cond} {rm : Room} {As : List Value} {W0 : va_W} {Rr : Oc → Prop} {mc ms : Nat} {ret : Option FieldType} (hfl : l.stackTraces = false) (hy : plainName y.cls = true) (ho : y.cls = own) (hw : ws = Cond.code y cc nL ret :: ws') (hn : (lg_sl As).length ≤ nL)
    (k : ∀ (p : Program) (e : Env) (s : State) (m : MethodId) (args : Array Value) (below : List Frame) (meth : Method) (c : Code) (A : Nat → Prop), Cx ss p l s m args meth c cc nL ws own D tys A [] → meth.sig.returnType = ret → meth.name = y.name →
      Gq p l e rm s m args below meth c D A nL (CQ below D W0 Rr args s mc ms A) W0 0 0 0 (lv_args 0 As) []) : Ct ss l y ws rm D tys As W0 Rr mc ms := by
  intro sz
  refine vx_ofW (cc := cc) (maxL := nL) (ret := ret) hy hw ?_
  intro p e s m args below meth c s₁ B hml hxt hv
  obtain ⟨rfl, hsz, hP, hK, hD0, hE⟩ := hv
  subst hsz
  subst ho
  have hts := atoms_spec (ws := ws) B.pre
  have hown : s.vm.findClass y.cls = some m.cls := findClass_of_methodNamed B.named
  have hxl : c.exceptionTable.toList = [] := List.eq_nil_iff_forall_not_mem.mpr (fun x hx => hxt x hx)
  have C : Cx ss p l s m As.toArray meth c cc nL ws y.cls D tys (va_A W0 s.heap.size) [] := ⟨B.exec, B.bytes, hml, hown, hts, hK, fun q h => Or.inr h, B.notSynchronized, hE, hxl, hfl⟩
  have hl := lv_entry As (n := nL) hn
  rw [lg_entry_eq]
  exact k p e s m As.toArray below meth c _ C B.returns (name_of_methodNamed B.named B.method).1 s.heap [] _ hP hD0.self va_S.rf hl
theorem ct_ofH {y : MethodName} {ws ws' : List Cond} {rm : Room} {As : List Value} {W0 : va_W} {Rr : Oc → Prop} {mc ms : Nat} {ret : Option FieldType} {hh : List (Nat × Nat × Nat × Nat)} (hfl : l.stackTraces = false) (hy : plainName y.cls = true) (ho : y.cls = own) (hw : ws = Cond.codeWith y cc nL ret hh :: ws') (hn : (lg_sl As).length ≤ nL)
    (k : ∀ (p : Program) (e : Env) (s : State) (m : MethodId) (args : Array Value) (below : List Frame) (meth : Method) (c : Code) (A : Nat → Prop), Cx ss p l s m args meth c cc nL ws own D tys A (tableOf hh) → meth.sig.returnType = ret → meth.name = y.name →
      Gq p l e rm s m args below meth c D A nL (CQ below D W0 Rr args s mc ms A) W0 0 0 0 (lv_args 0 As) []) : Ct ss l y ws rm D tys As W0 Rr mc ms := by
  intro sz
  refine vx_ofWH (cc := cc) (maxL := nL) (ret := ret) (hh := hh) hy hw ?_
  intro p e s m args below meth c s₁ B hml hv
  obtain ⟨rfl, hsz, hP, hK, hD0, hE⟩ := hv
  subst hsz
  subst ho
  have hts := atoms_spec (ws := ws) B.pre
  have hown : s.vm.findClass y.cls = some m.cls := findClass_of_methodNamed B.named
  have hxl : c.exceptionTable.toList = tableOf hh := vx_table (x := y) B (hts _ (by rw [hw]; exact List.mem_cons_self))
  have C : Cx ss p l s m As.toArray meth c cc nL ws y.cls D tys (va_A W0 s.heap.size) (tableOf hh) := ⟨B.exec, B.bytes, hml, hown, hts, hK, fun q h => Or.inr h, B.notSynchronized, hE, hxl, hfl⟩
  have hl := lv_entry As (n := nL) hn
  rw [lg_entry_eq]
  exact k p e s m As.toArray below meth c _ C B.returns (name_of_methodNamed B.named B.method).1 s.heap [] _ hP hD0.self va_S.rf hl
/-! rows: constants, locals, arithmetic -/
theorem g_lv (ks : List Nat) (hk : lv_pick lv ks = lv') (kk : Gq p l e R s m args below meth c D A nL Q ws cells slots pc lv' st) : Gq p l e R s m args below meth c D A nL Q ws cells slots pc lv st := fun H locs ls hP hD hS hl => kk H locs ls hP hD hS (lv_sub hl ks hk)
theorem g_pc (h : pc = q) (kk : Gq p l e R s m args below meth c D A nL Q ws cells slots q lv st) : Gq p l e R s m args below meth c D A nL Q ws cells slots pc lv st := h ▸ kk
theorem g_wide {c2 s2 : Nat} (h1 : cells ≤ c2) (h2 : slots ≤ s2) (kk : Gq p l e R s m args below meth c D A nL Q ws c2 s2 pc lv st) : Gq p l e R s m args below meth c D A nL Q ws cells slots pc lv st := fun H locs ls hP hD hS hl => W.widen h1 h2 (kk H locs ls hP hD hS hl)
theorem g_left {wr : va_W} (hw : ws = ws' ++ wr) (kk : Gq p l e R s m args below meth c D A nL Q ws' cells slots pc lv st) : Gq p l e R s m args below meth c D A nL Q ws cells slots pc lv st := by
  subst hw
  exact fun H locs ls hP hD hS hl => kk H locs ls (vp_app.mp hP).1 (vd_app.mp hD).1 hS hl
theorem g_iconst (C : Cx ss p l s m args meth c cc nL Ts own D tys A tb) {n : Int} {v : Int32} (d : decode cc pc = .ok (.iconst n, 1)) (q : Nat) (hq : pc + 1 = q) (hv : Int32.ofInt n = v) (kk : Gq p l e R s m args below meth c D A nL Q ws cells slots q lv (.int v :: st)) : Gq p l e R s m args below meth c D A nL Q ws cells slots pc lv st := by
  subst hq
  exact fun H locs ls hP hD hS hl => lv_iconst C.1 C.2.1 d hv (kk H locs ls hP hD hS hl)
theorem g_bipush (C : Cx ss p l s m args meth c cc nL Ts own D tys A tb) {n : Int} {v : Int32} (d : decode cc pc = .ok (.bipush n, 2)) (q : Nat) (hq : pc + 2 = q) (hv : (Int8.ofInt n).toInt32 = v) (kk : Gq p l e R s m args below meth c D A nL Q ws cells slots q lv (.int v :: st)) : Gq p l e R s m args below meth c D A nL Q ws cells slots pc lv st := by
  subst hq
  exact fun H locs ls hP hD hS hl => lv_bipush C.1 C.2.1 d hv (kk H locs ls hP hD hS hl)
theorem g_lconst (C : Cx ss p l s m args meth c cc nL Ts own D tys A tb) {n : Fin 2} {v : Int64} (d : decode cc pc = .ok (.lconst n, 1)) (q : Nat) (hq : pc + 1 = q) (hv : Int64.ofNat (n : Nat) = v) (kk : Gq p l e R s m args below meth c D A nL Q ws cells slots q lv (.long v :: st)) : Gq p l e R s m args below meth c D A nL Q ws cells slots pc lv st := by
  subst hq
  exact fun H locs ls hP hD hS hl => lv_lconst C.1 C.2.1 d hv (kk H locs ls hP hD hS hl)
theorem g_dconst0 (C : Cx ss p l s m args meth c cc nL Ts own D tys A tb) (d : decode cc pc = .ok (.dconst 0, 1)) (q : Nat) (hq : pc + 1 = q) (kk : Gq p l e R s m args below meth c D A nL Q ws cells slots q lv (.double FP.dconst0 :: st)) : Gq p l e R s m args below meth c D A nL Q ws cells slots pc lv st := by
  subst hq
  exact fun H locs ls hP hD hS hl => lv_dconst0 C.1 C.2.1 d (kk H locs ls hP hD hS hl)
theorem g_ldc2 (C : Cx ss p l s m args meth c cc nL Ts own D tys A tb) {i : Nat} {v : Int64} (hw : (Cond.constantLong own i v).before args s = true) (d : decode cc pc = .ok (.ldc2_w i, 3)) (q : Nat) (hq : pc + 3 = q) (kk : Gq p l e R s m args below meth c D A nL Q ws cells slots q lv (.long v :: st)) : Gq p l e R s m args below meth c D A nL Q ws cells slots pc lv st := by
  subst hq
  exact fun H locs ls hP hD hS hl => lv_ldc2 C.1 C.2.1 C.2.2.2.1 hw d (kk H locs ls hP hD hS hl)
theorem g_iload_n (C : Cx ss p l s m args meth c cc nL Ts own D tys A tb) {k : Fin 4} {x : Int32} (d : decode cc pc = .ok (.iload_n k, 1)) (q : Nat) (hq : pc + 1 = q) (j : Nat) (hj : lv[j]? = some ((k : Nat), .int x)) (kk : Gq p l e R s m args below meth c D A nL Q ws cells slots q lv (.int x :: st)) : Gq p l e R s m args below meth c D A nL Q ws cells slots pc lv st := by
  subst hq
  exact fun H locs ls hP hD hS hl => lv_iload_n C.1 C.2.1 d rfl (lv_at hl j hj) (kk H locs ls hP hD hS hl)
theorem g_iload (C : Cx ss p l s m args meth c cc nL Ts own D tys A tb) {i : Nat} {x : Int32} (d : decode cc pc = .ok (.iload i, 2)) (q : Nat) (hq : pc + 2 = q) (j : Nat) (hj : lv[j]? = some (i, .int x)) (kk : Gq p l e R s m args below meth c D A nL Q ws cells slots q lv (.int x :: st)) : Gq p l e R s m args below meth c D A nL Q ws cells slots pc lv st := by
  subst hq
  exact fun H locs ls hP hD hS hl => lv_iload C.1 C.2.1 d (lv_at hl j hj) (kk H locs ls hP hD hS hl)
theorem g_aload_n (C : Cx ss p l s m args meth c cc nL Ts own D tys A tb) {k : Fin 4} {x : Nat} (d : decode cc pc = .ok (.aload_n k, 1)) (q : Nat) (hq : pc + 1 = q) (j : Nat) (hj : lv[j]? = some ((k : Nat), .ref x)) (kk : Gq p l e R s m args below meth c D A nL Q ws cells slots q lv (.ref x :: st)) : Gq p l e R s m args below meth c D A nL Q ws cells slots pc lv st := by
  subst hq
  exact fun H locs ls hP hD hS hl => lv_aload_n C.1 C.2.1 d rfl (lv_at hl j hj) (kk H locs ls hP hD hS hl)
theorem g_aload (C : Cx ss p l s m args meth c cc nL Ts own D tys A tb) {i : Nat} {x : Nat} (d : decode cc pc = .ok (.aload i, 2)) (q : Nat) (hq : pc + 2 = q) (j : Nat) (hj : lv[j]? = some (i, .ref x)) (kk : Gq p l e R s m args below meth c D A nL Q ws cells slots q lv (.ref x :: st)) : Gq p l e R s m args below meth c D A nL Q ws cells slots pc lv st := by
  subst hq
  exact fun H locs ls hP hD hS hl => lv_aload C.1 C.2.1 d (lv_at hl j hj) (kk H locs ls hP hD hS hl)
theorem g_lload_n (C : Cx ss p l s m args meth c cc nL Ts own D tys A tb) {k : Fin 4} {x : Int64} (d : decode cc pc = .ok (.lload_n k, 1)) (q : Nat) (hq : pc + 1 = q) (j : Nat) (hj : lv[j]? = some ((k : Nat), .long x)) (kk : Gq p l e R s m args below meth c D A nL Q ws cells slots q lv (.long x :: st)) : Gq p l e R s m args below meth c D A nL Q ws cells slots pc lv st := by
  subst hq
  exact fun H locs ls hP hD hS hl => lv_lload_n C.1 C.2.1 d rfl (lv_at hl j hj) (kk H locs ls hP hD hS hl)
theorem g_dload (C : Cx ss p l s m args meth c cc nL Ts own D tys A tb) {i : Nat} {x : UInt64} (d : decode cc pc = .ok (.dload i, 2)) (q : Nat) (hq : pc + 2 = q) (j : Nat) (hj : lv[j]? = some (i, .double x)) (kk : Gq p l e R s m args below meth c D A nL Q ws cells slots q lv (.double x :: st)) : Gq p l e R s m args below meth c D A nL Q ws cells slots pc lv st := by
  subst hq
  exact fun H locs ls hP hD hS hl => lv_dload C.1 C.2.1 d (lv_at hl j hj) (kk H locs ls hP hD hS hl)
theorem g_istore_n (C : Cx ss p l s m args meth c cc nL Ts own D tys A tb) {k : Fin 4} {x : Int32} (d : decode cc pc = .ok (.istore_n k, 1)) (q : Nat) (hq : pc + 1 = q) (hn : (k : Nat) < nL) (hl' : ((k : Nat), Value.int x) :: lv.filter (fun q => !(q.1 == (k : Nat)) && !(q.1 + 1 == (k : Nat) && q.2.category == 2)) = lv') (kk : Gq p l e R s m args below meth c D A nL Q ws cells slots q lv' st) : Gq p l e R s m args below meth c D A nL Q ws cells slots pc lv (.int x :: st) := by
  subst hq
  exact fun H locs ls hP hD hS hl => lv_istore_n C.1 C.2.1 d rfl hl hn hl' (fun ls hl => kk H locs ls hP hD hS hl)
theorem g_istore (C : Cx ss p l s m args meth c cc nL Ts own D tys A tb) {i : Nat} {x : Int32} (d : decode cc pc = .ok (.istore i, 2)) (q : Nat) (hq : pc + 2 = q) (hn : i < nL) (hl' : (i, Value.int x) :: lv.filter (fun q => !(q.1 == i) && !(q.1 + 1 == i && q.2.category == 2)) = lv') (kk : Gq p l e R s m args below meth c D A nL Q ws cells slots q lv' st) : Gq p l e R s m args below meth c D A nL Q ws cells slots pc lv (.int x :: st) := by
  subst hq
  exact fun H locs ls hP hD hS hl => lv_istore C.1 C.2.1 d hl hn hl' (fun ls hl => kk H locs ls hP hD hS hl)
theorem g_astore_n (C : Cx ss p l s m args meth c cc nL Ts own D tys A tb) {k : Fin 4} {x : Nat} (d : decode cc pc = .ok (.astore_n k, 1)) (q : Nat) (hq : pc + 1 = q) (hn : (k : Nat) < nL) (hl' : ((k : Nat), Value.ref x) :: lv.filter (fun q => !(q.1 == (k : Nat)) && !(q.1 + 1 == (k : Nat) && q.2.category == 2)) = lv') (kk : Gq p l e R s m args below meth c D A nL Q ws cells slots q lv' st) : Gq p l e R s m args below meth c D A nL Q ws cells slots pc lv (.ref x :: st) := by
  subst hq
  exact fun H locs ls hP hD hS hl => lv_astore_n C.1 C.2.1 d rfl hl hn hl' (fun ls hl => kk H locs ls hP hD hS hl)
theorem g_astore (C : Cx ss p l s m args meth c cc nL Ts own D tys A tb) {i : Nat} {x : Nat} (d : decode cc pc = .ok (.astore i, 2)) (q : Nat) (hq : pc + 2 = q) (hn : i < nL) (hl' : (i, Value.ref x) :: lv.filter (fun q => !(q.1 == i) && !(q.1 + 1 == i && q.2.category == 2)) = lv') (kk : Gq p l e R s m args below meth c D A nL Q ws cells slots q lv' st) : Gq p l e R s m args below meth c D A nL Q ws cells slots pc lv (.ref x :: st) := by
  subst hq
  exact fun H locs ls hP hD hS hl => lv_astore C.1 C.2.1 d hl hn hl' (fun ls hl => kk H locs ls hP hD hS hl)
theorem g_lstore_n (C : Cx ss p l s m args meth c cc nL Ts own D tys A tb) {k : Fin 4} {x : Int64} (d : decode cc pc = .ok (.lstore_n k, 1)) (q : Nat) (hq : pc + 1 = q) (hn : (k : Nat) + 1 < nL) (hl' : ((k : Nat), Value.long x) :: lv.filter (fun q => !(q.1 == (k : Nat)) && (!(q.1 == (k : Nat) + 1) && !(q.1 + 1 == (k : Nat) && q.2.category == 2))) = lv') (kk : Gq p l e R s m args below meth c D A nL Q ws cells slots q lv' st) : Gq p l e R s m args below meth c D A nL Q ws cells slots pc lv (.long x :: st) := by
  subst hq
  exact fun H locs ls hP hD hS hl => lv_lstore_n C.1 C.2.1 d rfl hl hn hl' (fun ls hl => kk H locs ls hP hD hS hl)
theorem g_dstore (C : Cx ss p l s m args meth c cc nL Ts own D tys A tb) {i : Nat} {x : UInt64} (d : decode cc pc = .ok (.dstore i, 2)) (q : Nat) (hq : pc + 2 = q) (hn : i + 1 < nL) (hl' : (i, Value.double x) :: lv.filter (fun q => !(q.1 == i) && (!(q.1 == i + 1) && !(q.1 + 1 == i && q.2.category == 2))) = lv') (kk : Gq p l e R s m args below meth c D A nL Q ws cells slots q lv' st) : Gq p l e R s m args below meth c D A nL Q ws cells slots pc lv (.double x :: st) := by
  subst hq
  exact fun H locs ls hP hD hS hl => lv_dstore C.1 C.2.1 d hl hn hl' (fun ls hl => kk H locs ls hP hD hS hl)
theorem g_iinc (C : Cx ss p l s m args meth c cc nL Ts own D tys A tb) {i : Nat} {n : Int} {x v : Int32} (d : decode cc pc = .ok (.iinc i n, 3)) (q : Nat) (hq : pc + 3 = q) (j : Nat) (hj : lv[j]? = some (i, .int x)) (hv : x + Int32.ofInt n = v) (hn : i < nL) (hl' : (i, Value.int v) :: lv.filter (fun q => !(q.1 == i) && !(q.1 + 1 == i && q.2.category == 2)) = lv') (kk : Gq p l e R s m args below meth c D A nL Q ws cells slots q lv' st) : Gq p l e R s m args below meth c D A nL Q ws cells slots pc lv st := by
  subst hq
  exact fun H locs ls hP hD hS hl => lv_iinc C.1 C.2.1 d hl hj hv hn hl' (fun ls hl => kk H locs ls hP hD hS hl)
theorem g_iadd (C : Cx ss p l s m args meth c cc nL Ts own D tys A tb) {x y : Int32} (d : decode cc pc = .ok (.iadd, 1)) (q : Nat) (hq : pc + 1 = q) (kk : Gq p l e R s m args below meth c D A nL Q ws cells slots q lv (.int (x + y) :: st)) : Gq p l e R s m args below meth c D A nL Q ws cells slots pc lv (.int y :: .int x :: st) := by
  subst hq
  exact fun H locs ls hP hD hS hl => lv_iadd C.1 C.2.1 d (kk H locs ls hP hD hS hl)
theorem g_isub (C : Cx ss p l s m args meth c cc nL Ts own D tys A tb) {x y : Int32} (d : decode cc pc = .ok (.isub, 1)) (q : Nat) (hq : pc + 1 = q) (kk : Gq p l e R s m args below meth c D A nL Q ws cells slots q lv (.int (x - y) :: st)) : Gq p l e R s m args below meth c D A nL Q ws cells slots pc lv (.int y :: .int x :: st) := by
  subst hq
  exact fun H locs ls hP hD hS hl => lv_isub C.1 C.2.1 d (kk H locs ls hP hD hS hl)
theorem g_imul (C : Cx ss p l s m args meth c cc nL Ts own D tys A tb) {x y : Int32} (d : decode cc pc = .ok (.imul, 1)) (q : Nat) (hq : pc + 1 = q) (kk : Gq p l e R s m args below meth c D A nL Q ws cells slots q lv (.int (x * y) :: st)) : Gq p l e R s m args below meth c D A nL Q ws cells slots pc lv (.int y :: .int x :: st) := by
  subst hq
  exact fun H locs ls hP hD hS hl => lv_imul C.1 C.2.1 d (kk H locs ls hP hD hS hl)
theorem g_idiv (C : Cx ss p l s m args meth c cc nL Ts own D tys A tb) {x y : Int32} (hy : ¬ y = 0) (d : decode cc pc = .ok (.idiv, 1)) (q : Nat) (hq : pc + 1 = q) (kk : Gq p l e R s m args below meth c D A nL Q ws cells slots q lv (.int (x / y) :: st)) : Gq p l e R s m args below meth c D A nL Q ws cells slots pc lv (.int y :: .int x :: st) := by
  subst hq
  exact fun H locs ls hP hD hS hl => lv_idiv C.1 C.2.1 d hy (kk H locs ls hP hD hS hl)
theorem g_iand (C : Cx ss p l s m args meth c cc nL Ts own D tys A tb) {x y : Int32} (d : decode cc pc = .ok (.iand, 1)) (q : Nat) (hq : pc + 1 = q) (kk : Gq p l e R s m args below meth c D A nL Q ws cells slots q lv (.int (x &&& y) :: st)) : Gq p l e R s m args below meth c D A nL Q ws cells slots pc lv (.int y :: .int x :: st) := by
  subst hq
  exact fun H locs ls hP hD hS hl => lv_iand C.1 C.2.1 d (kk H locs ls hP hD hS hl)
theorem g_ladd (C : Cx ss p l s m args meth c cc nL Ts own D tys A tb) {x y : Int64} (d : decode cc pc = .ok (.ladd, 1)) (q : Nat) (hq : pc + 1 = q) (kk : Gq p l e R s m args below meth c D A nL Q ws cells slots q lv (.long (x + y) :: st)) : Gq p l e R s m args below meth c D A nL Q ws cells slots pc lv (.long y :: .long x :: st) := by
  subst hq
  exact fun H locs ls hP hD hS hl => lv_ladd C.1 C.2.1 d (kk H locs ls hP hD hS hl)
theorem g_lmul (C : Cx ss p l s m args meth c cc nL Ts own D tys A tb) {x y : Int64} (d : decode cc pc = .ok (.lmul, 1)) (q : Nat) (hq : pc + 1 = q) (kk : Gq p l e R s m args below meth c D A nL Q ws cells slots q lv (.long (x * y) :: st)) : Gq p l e R s m args below meth c D A nL Q ws cells slots pc lv (.long y :: .long x :: st) := by
  subst hq
  exact fun H locs ls hP hD hS hl => lv_lmul C.1 C.2.1 d (kk H locs ls hP hD hS hl)
theorem g_lcmp (C : Cx ss p l s m args meth c cc nL Ts own D tys A tb) {x y : Int64} (d : decode cc pc = .ok (.lcmp, 1)) (q : Nat) (hq : pc + 1 = q) (kk : Gq p l e R s m args below meth c D A nL Q ws cells slots q lv (.int (lg_cmp x y) :: st)) : Gq p l e R s m args below meth c D A nL Q ws cells slots pc lv (.long y :: .long x :: st) := by
  subst hq
  exact fun H locs ls hP hD hS hl => W.lcmp C.1 C.2.1 d (kk H locs ls hP hD hS hl)
theorem g_dcmp (C : Cx ss p l s m args meth c cc nL Ts own D tys A tb) {x y : UInt64} {op : CmpOp} (d : decode cc pc = .ok (.dcmp op, 1)) (q : Nat) (hq : pc + 1 = q) (kk : Gq p l e R s m args below meth c D A nL Q ws cells slots q lv (.int (Op.cmpValue (FP.dcmp x y) op) :: st)) : Gq p l e R s m args below meth c D A nL Q ws cells slots pc lv (.double y :: .double x :: st) := by
  subst hq
  exact fun H locs ls hP hD hS hl => lv_dcmp C.1 C.2.1 d (kk H locs ls hP hD hS hl)
theorem g_ddiv (C : Cx ss p l s m args meth c cc nL Ts own D tys A tb) {x y : UInt64} (hne : vf_n64 (FP.ddiv x y)) (d : decode cc pc = .ok (.ddiv, 1)) (q : Nat) (hq : pc + 1 = q) (kk : Gq p l e R s m args below meth c D A nL Q ws cells slots q lv (.double (FP.ddiv x y) :: st)) : Gq p l e R s m args below meth c D A nL Q ws cells slots pc lv (.double y :: .double x :: st) := by
  subst hq
  exact fun H locs ls hP hD hS hl => lv_ddiv C.1 C.2.1 d hne (kk H locs ls hP hD hS hl)
theorem g_i2l (C : Cx ss p l s m args meth c cc nL Ts own D tys A tb) {x : Int32} (d : decode cc pc = .ok (.i2l, 1)) (q : Nat) (hq : pc + 1 = q) (kk : Gq p l e R s m args below meth c D A nL Q ws cells slots q lv (.long x.toInt64 :: st)) : Gq p l e R s m args below meth c D A nL Q ws cells slots pc lv (.int x :: st) := by
  subst hq
  exact fun H locs ls hP hD hS hl => lv_i2l C.1 C.2.1 d rfl (kk H locs ls hP hD hS hl)
theorem g_i2d (C : Cx ss p l s m args meth c cc nL Ts own D tys A tb) {x : Int32} (d : decode cc pc = .ok (.i2d, 1)) (q : Nat) (hq : pc + 1 = q) (kk : Gq p l e R s m args below meth c D A nL Q ws cells slots q lv (.double (FP.i2d x) :: st)) : Gq p l e R s m args below meth c D A nL Q ws cells slots pc lv (.int x :: st) := by
  subst hq
  exact fun H locs ls hP hD hS hl => lv_i2d C.1 C.2.1 d (kk H locs ls hP hD hS hl)
theorem g_dup (C : Cx ss p l s m args meth c cc nL Ts own D tys A tb) {va : Value} (d : decode cc pc = .ok (.dup, 1)) (q : Nat) (hq : pc + 1 = q) (hva : va.category = 1) (kk : Gq p l e R s m args below meth c D A nL Q ws cells slots q lv (va :: va :: st)) : Gq p l e R s m args below meth c D A nL Q ws cells slots pc lv (va :: st) := by
  subst hq
  exact fun H locs ls hP hD hS hl => lv_dup C.1 C.2.1 d hva (kk H locs ls hP hD hS hl)
theorem g_dup2 (C : Cx ss p l s m args meth c cc nL Ts own D tys A tb) {va vb : Value} (d : decode cc pc = .ok (.dup2, 1)) (q : Nat) (hq : pc + 1 = q) (hva : va.category = 1) (hvb : vb.category = 1) (kk : Gq p l e R s m args below meth c D A nL Q ws cells slots q lv (va :: vb :: va :: vb :: st)) : Gq p l e R s m args below meth c D A nL Q ws cells slots pc lv (va :: vb :: st) := by
  subst hq
  exact fun H locs ls hP hD hS hl => lv_dup2_11 C.1 C.2.1 d hva hvb (kk H locs ls hP hD hS hl)
/-! rows: branches -/
theorem g_goto (C : Cx ss p l s m args meth c cc nL Ts own D tys A tb) {off : Int} (d : decode cc pc = .ok (.goto off, 3)) (tgt : Nat) (ht : (pc : Int) + off = (tgt : Int)) (kk : Gq p l e R s m args below meth c D A nL Q ws cells slots tgt lv st) : Gq p l e R s m args below meth c D A nL Q ws cells slots pc lv st := fun H locs ls hP hD hS hl => lv_goto C.1 C.2.1 d ht (kk H locs ls hP hD hS hl)
theorem g_icmp_ge (C : Cx ss p l s m args meth c cc nL Ts own D tys A tb) {x y : Int32} {off : Int} (d : decode cc pc = .ok (.if_icmp .ge off, 3)) (tgt q : Nat) (ht : (pc : Int) + off = (tgt : Int)) (hq : pc + 3 = q) (kt : y ≤ x → Gq p l e R s m args below meth c D A nL Q ws cells slots tgt lv st) (kf : ¬ y ≤ x → Gq p l e R s m args below meth c D A nL Q ws cells slots q lv st) : Gq p l e R s m args below meth c D A nL Q ws cells slots pc lv (.int y :: .int x :: st) := by
  subst hq
  exact fun H locs ls hP hD hS hl => lv_icmp_ge C.1 C.2.1 d ht (fun h => kt h H locs ls hP hD hS hl) (fun h => kf h H locs ls hP hD hS hl)
theorem g_icmp_lt (C : Cx ss p l s m args meth c cc nL Ts own D tys A tb) {x y : Int32} {off : Int} (d : decode cc pc = .ok (.if_icmp .lt off, 3)) (tgt q : Nat) (ht : (pc : Int) + off = (tgt : Int)) (hq : pc + 3 = q) (kt : x < y → Gq p l e R s m args below meth c D A nL Q ws cells slots tgt lv st) (kf : ¬ x < y → Gq p l e R s m args below meth c D A nL Q ws cells slots q lv st) : Gq p l e R s m args below meth c D A nL Q ws cells slots pc lv (.int y :: .int x :: st) := by
  subst hq
  exact fun H locs ls hP hD hS hl => lv_icmp_lt C.1 C.2.1 d ht (fun h => kt h H locs ls hP hD hS hl) (fun h => kf h H locs ls hP hD hS hl)
theorem g_icmp_gt (C : Cx ss p l s m args meth c cc nL Ts own D tys A tb) {x y : Int32} {off : Int} (d : decode cc pc = .ok (.if_icmp .gt off, 3)) (tgt q : Nat) (ht : (pc : Int) + off = (tgt : Int)) (hq : pc + 3 = q) (kt : y < x → Gq p l e R s m args below meth c D A nL Q ws cells slots tgt lv st) (kf : ¬ y < x → Gq p l e R s m args below meth c D A nL Q ws cells slots q lv st) : Gq p l e R s m args below meth c D A nL Q ws cells slots pc lv (.int y :: .int x :: st) := by
  subst hq
  exact fun H locs ls hP hD hS hl => lv_icmp_gt C.1 C.2.1 d ht (fun h => kt h H locs ls hP hD hS hl) (fun h => kf h H locs ls hP hD hS hl)
theorem g_icmp_le (C : Cx ss p l s m args meth c cc nL Ts own D tys A tb) {x y : Int32} {off : Int} (d : decode cc pc = .ok (.if_icmp .le off, 3)) (tgt q : Nat) (ht : (pc : Int) + off = (tgt : Int)) (hq : pc + 3 = q) (kt : x ≤ y → Gq p l e R s m args below meth c D A nL Q ws cells slots tgt lv st) (kf : ¬ x ≤ y → Gq p l e R s m args below meth c D A nL Q ws cells slots q lv st) : Gq p l e R s m args below meth c D A nL Q ws cells slots pc lv (.int y :: .int x :: st) := by
  subst hq
  exact fun H locs ls hP hD hS hl => lv_icmp_le C.1 C.2.1 d ht (fun h => kt h H locs ls hP hD hS hl) (fun h => kf h H locs ls hP hD hS hl)
theorem g_icmp_eq (C : Cx ss p l s m args meth c cc nL Ts own D tys A tb) {x y : Int32} {off : Int} (d : decode cc pc = .ok (.if_icmp .eq off, 3)) (tgt q : Nat) (ht : (pc : Int) + off = (tgt : Int)) (hq : pc + 3 = q) (kt : x = y → Gq p l e R s m args below meth c D A nL Q ws cells slots tgt lv st) (kf : ¬ x = y → Gq p l e R s m args below meth c D A nL Q ws cells slots q lv st) : Gq p l e R s m args below meth c D A nL Q ws cells slots pc lv (.int y :: .int x :: st) := by
  subst hq
  exact fun H locs ls hP hD hS hl => lv_icmp_eq C.1 C.2.1 d ht (fun h => kt h H locs ls hP hD hS hl) (fun h => kf h H locs ls hP hD hS hl)
theorem g_icmp_ne (C : Cx ss p l s m args meth c cc nL Ts own D tys A tb) {x y : Int32} {off : Int} (d : decode cc pc = .ok (.if_icmp .ne off, 3)) (tgt q : Nat) (ht : (pc : Int) + off = (tgt : Int)) (hq : pc + 3 = q) (kt : ¬ x = y → Gq p l e R s m args below meth c D A nL Q ws cells slots tgt lv st) (kf : x = y → Gq p l e R s m args below meth c D A nL Q ws cells slots q lv st) : Gq p l e R s m args below meth c D A nL Q ws cells slots pc lv (.int y :: .int x :: st) := by
  subst hq
  exact fun H locs ls hP hD hS hl => lv_icmp_ne C.1 C.2.1 d ht (fun h => kt h H locs ls hP hD hS hl) (fun h => kf h H locs ls hP hD hS hl)
theorem g_if_eq (C : Cx ss p l s m args meth c cc nL Ts own D tys A tb) {x : Int32} {off : Int} (d : decode cc pc = .ok (.ifCond .eq off, 3)) (tgt q : Nat) (ht : (pc : Int) + off = (tgt : Int)) (hq : pc + 3 = q) (kt : x = 0 → Gq p l e R s m args below meth c D A nL Q ws cells slots tgt lv st) (kf : ¬ x = 0 → Gq p l e R s m args below meth c D A nL Q ws cells slots q lv st) : Gq p l e R s m args below meth c D A nL Q ws cells slots pc lv (.int x :: st) := by
  subst hq
  exact fun H locs ls hP hD hS hl => lv_if_eq C.1 C.2.1 d ht (fun h => kt h H locs ls hP hD hS hl) (fun h => kf h H locs ls hP hD hS hl)
theorem g_if_ne (C : Cx ss p l s m args meth c cc nL Ts own D tys A tb) {x : Int32} {off : Int} (d : decode cc pc = .ok (.ifCond .ne off, 3)) (tgt q : Nat) (ht : (pc : Int) + off = (tgt : Int)) (hq : pc + 3 = q) (kt : ¬ x = 0 → Gq p l e R s m args below meth c D A nL Q ws cells slots tgt lv st) (kf : x = 0 → Gq p l e R s m args below meth c D A nL Q ws cells slots q lv st) : Gq p l e R s m args below meth c D A nL Q ws cells slots pc lv (.int x :: st) := by
  subst hq
  exact fun H locs ls hP hD hS hl => lv_if_ne C.1 C.2.1 d ht (fun h => kt h H locs ls hP hD hS hl) (fun h => kf h H locs ls hP hD hS hl)
theorem g_if_lt (C : Cx ss p l s m args meth c cc nL Ts own D tys A tb) {x : Int32} {off : Int} (d : decode cc pc = .ok (.ifCond .lt off, 3)) (tgt q : Nat) (ht : (pc : Int) + off = (tgt : Int)) (hq : pc + 3 = q) (kt : x < 0 → Gq p l e R s m args below meth c D A nL Q ws cells slots tgt lv st) (kf : ¬ x < 0 → Gq p l e R s m args below meth c D A nL Q ws cells slots q lv st) : Gq p l e R s m args below meth c D A nL Q ws cells slots pc lv (.int x :: st) := by
  subst hq
  exact fun H locs ls hP hD hS hl => lv_if_lt C.1 C.2.1 d ht (fun h => kt h H locs ls hP hD hS hl) (fun h => kf h H locs ls hP hD hS hl)
theorem g_if_le (C : Cx ss p l s m args meth c cc nL Ts own D tys A tb) {x : Int32} {off : Int} (d : decode cc pc = .ok (.ifCond .le off, 3)) (tgt q : Nat) (ht : (pc : Int) + off = (tgt : Int)) (hq : pc + 3 = q) (kt : x ≤ 0 → Gq p l e R s m args below meth c D A nL Q ws cells slots tgt lv st) (kf : ¬ x ≤ 0 → Gq p l e R s m args below meth c D A nL Q ws cells slots q lv st) : Gq p l e R s m args below meth c D A nL Q ws cells slots pc lv (.int x :: st) := by
  subst hq
  exact fun H locs ls hP hD hS hl => lv_if_le C.1 C.2.1 d ht (fun h => kt h H locs ls hP hD hS hl) (fun h => kf h H locs ls hP hD hS hl)
theorem g_if_gt (C : Cx ss p l s m args meth c cc nL Ts own D tys A tb) {x : Int32} {off : Int} (d : decode cc pc = .ok (.ifCond .gt off, 3)) (tgt q : Nat) (ht : (pc : Int) + off = (tgt : Int)) (hq : pc + 3 = q) (kt : 0 < x → Gq p l e R s m args below meth c D A nL Q ws cells slots tgt lv st) (kf : ¬ 0 < x → Gq p l e R s m args below meth c D A nL Q ws cells slots q lv st) : Gq p l e R s m args below meth c D A nL Q ws cells slots pc lv (.int x :: st) := by
  subst hq
  exact fun H locs ls hP hD hS hl => lv_if_gt C.1 C.2.1 d ht (fun h => kt h H locs ls hP hD hS hl) (fun h => kf h H locs ls hP hD hS hl)
/-! rows: fields and arrays -/
theorem g_get (C : Cx ss p l s m args meth c cc nL Ts own D tys A tb) {ref Cn : String} {T : u_T} {N ci i a : Nat} {fs : List Value} {v : Value} (hin : ∀ w ∈ u_ws Cn T N, w ∈ Ts) (q0 : Nat) (he : ws[q0]? = some (a, .inr (ci, fs))) (hc : vwCl[ci]? = some (Cn, T, N)) (k : Nat) (hk : k < N) (hlink : (Cond.fieldLink own i ref (T k).2.1 (T k).2.2.1).before args s = true) (hsame : (T k).1 = ref) (hv : fs[k]? = some v) (d : decode cc pc = .ok (.getfield i, 3)) (q : Nat) (hq : pc + 3 = q)
    (kk : Gq p l e R s m args below meth c D A nL Q ws cells slots q lv (v :: st)) : Gq p l e R s m args below meth c D A nL Q ws cells slots pc lv (.ref a :: st) := by
  subst hq
  exact fun H locs ls hP hD hS hl => va_get C.1 C.2.1 C.2.2.2.2.1 hin C.2.2.2.1 C.2.2.2.2.2.1 hP q0 he hc k hk hlink (fun x h => by rw [← hsame]; exact h) hv d (kk H locs ls hP hD hS hl)
theorem g_put (C : Cx ss p l s m args meth c cc nL Ts own D tys A tb) {ref Cn : String} {T : u_T} {N ci i a : Nat} {fs : List Value} {x : Int32} (hin : ∀ w ∈ u_ws Cn T N, w ∈ Ts) (ty0 : Nat → FieldType) (hty : ∀ k, k < N → parseFieldDescriptor (T k).2.2.1 = some (ty0 k)) (hnm : ∀ a, a < N → ∀ b, b < N → a ≠ b → (T a).2.1 ≠ (T b).2.1) (q0 : Nat) (he : ws[q0]? = some (a, .inr (ci, fs))) (hc : vwCl[ci]? = some (Cn, T, N)) (k : Nat) (hk : k < N) (hlink : (Cond.fieldLink own i ref (T k).2.1 (T k).2.2.1).before args s = true) (hsame : (T k).1 = ref) (hfl : (T k).2.2.2 = false) (hti : ty0 k = .int) (hl0 : k < fs.length) (hw : ws.set q0 (a, .inr (ci, fs.set k (.int x))) = ws') (d : decode cc pc = .ok (.putfield i, 3)) (q : Nat) (hq : pc + 3 = q)
    (kk : Gq p l e R s m args below meth c D A nL Q ws' cells slots q lv st) : Gq p l e R s m args below meth c D A nL Q ws cells slots pc lv (.int x :: .ref a :: st) := by
  subst hq
  subst hw
  refine fun H locs ls hP hD hS hl => va_put (v := .int x) (ty := .int) C.1 C.2.1 C.2.2.2.2.1 hin ty0 hty hnm C.2.2.2.1 C.2.2.2.2.2.1 hP hD hS q0 he hc k hk hlink (fun x h => by rw [← hsame]; exact h) hfl ?_ ?_ ?_ hl0 d (fun H locs hP hD hS => kk H locs ls hP hD hS hl)
  all_goals first | exact hti | rfl | (rw [hti]; rfl) | (rw [hty k hk, hti]; done)
theorem g_newa (C : Cx ss p l s m args meth c cc nL Ts own D tys A tb) {atype : ArrayType} {ty : FieldType} {cA : ClassId} {a0 : vp_A} {n : Int32} (harr : (Cond.arrayClass (newarray.typeOf atype)).before args s = true) (hty : newarray.typeOf atype = ty) (hobj : ∀ C, ty ≠ .object C) (t0 : Nat) (ht : tys[t0]? = some (cA, ty)) (N : Nat) (ha : ∀ cA : ClassId, vp_cell cA a0 = arrV cA N (fun _ => defaultValue ty)) (hn : ¬ n < 0) (hN : n.toNatClampNeg = N) (hby : N * componentBytes ty ≤ 536870912) {c2 s2 : Nat} (hc2 : cells + 1 = c2) (hs2 : slots + N = s2) (hcells : c2 ≤ R.cells) (hslots : s2 ≤ R.slots) (d : decode cc pc = .ok (.newarray atype, 2)) (q : Nat) (hq : pc + 2 = q)
    (kk : ∀ z : Nat, Gq p l e R s m args below meth c D A nL Q (ws ++ [(z, .inl (cA, a0))]) c2 s2 q lv (.ref z :: st)) : Gq p l e R s m args below meth c D A nL Q ws cells slots pc lv (.int n :: st) := by
  subst hq; subst hc2; subst hs2
  refine fun H locs ls hP hD hS hl => va_newa C.1 C.2.1 (atype := atype) harr hty C.2.2.2.2.2.1 hP hD hS C.2.2.2.2.2.2.1 (n := n) (N' := N) (a0 := a0) ha hn hN hby hcells hslots d (fun z cB H1 hK1 hP1 hD1 hS1 => ?_)
  have h1 := (hK1.2 tys.length (cB, ty) (by rw [List.getElem?_append_right (Nat.le_refl _)]; simp)).2
  have h2 := (C.2.2.2.2.2.1.2 t0 _ ht).2
  have e : cB = cA := by
    cases ty with
    | object C => exact absurd rfl (hobj C)
    | _ => exact Option.some.inj (h1.symm.trans h2)
  subst e
  exact kk z H1 locs ls hP1 hD1 hS1 hl
def ldA (f : Nat → Int32) (n : Nat) (i : Int32) : Option Int32 := if i < 0 ∨ n ≤ i.toNatClampNeg then none else some (f i.toNatClampNeg)
def ldL (f : Nat → Int64) (n : Nat) (i : Int32) : Option Int64 := if i < 0 ∨ n ≤ i.toNatClampNeg then none else some (f i.toNatClampNeg)
theorem ldA_s {f : Nat → Int32} {n : Nat} {i x : Int32} (h : ldA f n i = some x) : vp_in i n ∧ f i.toNatClampNeg = x := by
  unfold ldA at h
  split at h
  · cases h
  · exact ⟨by assumption, Option.some.inj h⟩
theorem ldL_s {f : Nat → Int64} {n : Nat} {i : Int32} {x : Int64} (h : ldL f n i = some x) : vp_in i n ∧ f i.toNatClampNeg = x := by
  unfold ldL at h
  split at h
  · cases h
  · exact ⟨by assumption, Option.some.inj h⟩
theorem g_iald (C : Cx ss p l s m args meth c cc nL Ts own D tys A tb) {a n : Nat} {cA : ClassId} {f : Nat → Int32} {i x : Int32} (q0 t0 : Nat) (ha : ws[q0]? = some (a, .inl (cA, n, .inl f))) (ht : tys[t0]? = some (cA, .int)) (hld : ldA f n i = some x) (d : decode cc pc = .ok (.iaload, 1)) (q : Nat) (hq : pc + 1 = q) (kk : Gq p l e R s m args below meth c D A nL Q ws cells slots q lv (.int x :: st)) : Gq p l e R s m args below meth c D A nL Q ws cells slots pc lv (.int i :: .ref a :: st) := by
  subst hq
  obtain ⟨hin, rfl⟩ := ldA_s hld
  exact fun H locs ls hP hD hS hl => va_iald C.1 C.2.1 C.2.2.2.2.2.1 hP q0 t0 ha ht hin d (kk H locs ls hP hD hS hl)
theorem g_zald (C : Cx ss p l s m args meth c cc nL Ts own D tys A tb) {a n : Nat} {cA : ClassId} {f : Nat → Int32} {i x : Int32} (q0 t0 : Nat) (ha : ws[q0]? = some (a, .inl (cA, n, .inl f))) (ht : tys[t0]? = some (cA, .boolean)) (hld : ldA f n i = some x) (d : decode cc pc = .ok (.baload, 1)) (q : Nat) (hq : pc + 1 = q) (kk : Gq p l e R s m args below meth c D A nL Q ws cells slots q lv (.int x :: st)) : Gq p l e R s m args below meth c D A nL Q ws cells slots pc lv (.int i :: .ref a :: st) := by
  subst hq
  obtain ⟨hin, rfl⟩ := ldA_s hld
  exact fun H locs ls hP hD hS hl => va_zald C.1 C.2.1 C.2.2.2.2.2.1 hP q0 t0 ha ht hin d (kk H locs ls hP hD hS hl)
theorem g_lald (C : Cx ss p l s m args meth c cc nL Ts own D tys A tb) {a n : Nat} {cA : ClassId} {f : Nat → Int64} {i : Int32} {x : Int64} (q0 t0 : Nat) (ha : ws[q0]? = some (a, .inl (cA, n, .inr (.inl f)))) (ht : tys[t0]? = some (cA, .long)) (hld : ldL f n i = some x) (d : decode cc pc = .ok (.laload, 1)) (q : Nat) (hq : pc + 1 = q) (kk : Gq p l e R s m args below meth c D A nL Q ws cells slots q lv (.long x :: st)) : Gq p l e R s m args below meth c D A nL Q ws cells slots pc lv (.int i :: .ref a :: st) := by
  subst hq
  obtain ⟨hin, rfl⟩ := ldL_s hld
  exact fun H locs ls hP hD hS hl => va_lald C.1 C.2.1 C.2.2.2.2.2.1 hP q0 t0 ha ht hin d (kk H locs ls hP hD hS hl)
theorem g_iast (C : Cx ss p l s m args meth c cc nL Ts own D tys A tb) {a n : Nat} {cA : ClassId} {f : Nat → Int32} {i x : Int32} (q0 t0 : Nat) (ha : ws[q0]? = some (a, .inl (cA, n, .inl f))) (ht : tys[t0]? = some (cA, .int)) (hin : vp_in i n) (hw : ws.set q0 (a, .inl (cA, n, .inl (upd f i.toNatClampNeg x))) = ws') (d : decode cc pc = .ok (.iastore, 1)) (q : Nat) (hq : pc + 1 = q) (kk : Gq p l e R s m args below meth c D A nL Q ws' cells slots q lv st) : Gq p l e R s m args below meth c D A nL Q ws cells slots pc lv (.int x :: .int i :: .ref a :: st) := by
  subst hq; subst hw
  exact fun H locs ls hP hD hS hl => va_iast C.1 C.2.1 C.2.2.2.2.2.1 hP hD hS q0 t0 ha ht hin d (fun H locs hP hD hS => kk H locs ls hP hD hS hl)
theorem g_zast (C : Cx ss p l s m args meth c cc nL Ts own D tys A tb) {a n : Nat} {cA : ClassId} {f : Nat → Int32} {i x : Int32} (q0 t0 : Nat) (ha : ws[q0]? = some (a, .inl (cA, n, .inl f))) (ht : tys[t0]? = some (cA, .boolean)) (hin : vp_in i n) (hx : vp_nar .boolean x = x) (hw : ws.set q0 (a, .inl (cA, n, .inl (upd f i.toNatClampNeg x))) = ws') (d : decode cc pc = .ok (.bastore, 1)) (q : Nat) (hq : pc + 1 = q) (kk : Gq p l e R s m args below meth c D A nL Q ws' cells slots q lv st) : Gq p l e R s m args below meth c D A nL Q ws cells slots pc lv (.int x :: .int i :: .ref a :: st) := by
  subst hq; subst hw
  exact fun H locs ls hP hD hS hl => va_zast C.1 C.2.1 C.2.2.2.2.2.1 hP hD hS q0 t0 ha ht hin d (fun H locs hP hD hS => by
    rw [hx] at hP hD
    exact kk H locs ls hP hD hS hl)
theorem g_last (C : Cx ss p l s m args meth c cc nL Ts own D tys A tb) {a n : Nat} {cA : ClassId} {f : Nat → Int64} {i : Int32} {x : Int64} (q0 t0 : Nat) (ha : ws[q0]? = some (a, .inl (cA, n, .inr (.inl f)))) (ht : tys[t0]? = some (cA, .long)) (hin : vp_in i n) (hw : ws.set q0 (a, .inl (cA, n, .inr (.inl (vp_updL f i.toNatClampNeg x)))) = ws') (d : decode cc pc = .ok (.lastore, 1)) (q : Nat) (hq : pc + 1 = q) (kk : Gq p l e R s m args below meth c D A nL Q ws' cells slots q lv st) : Gq p l e R s m args below meth c D A nL Q ws cells slots pc lv (.long x :: .int i :: .ref a :: st) := by
  subst hq; subst hw
  exact fun H locs ls hP hD hS hl => va_last C.1 C.2.1 C.2.2.2.2.2.1 hP hD hS q0 t0 ha ht hin d (fun H locs hP hD hS => kk H locs ls hP hD hS hl)
theorem g_alen (C : Cx ss p l s m args meth c cc nL Ts own D tys A tb) {a : Nat} {cA : ClassId} {x : vp_A} {ty : FieldType} {v : Int32} (q0 t0 : Nat) (ha : ws[q0]? = some (a, .inl (cA, x))) (ht : tys[t0]? = some (cA, ty)) (hv : Int32.ofNat x.1 = v) (d : decode cc pc = .ok (.arraylength, 1)) (q : Nat) (hq : pc + 1 = q) (kk : Gq p l e R s m args below meth c D A nL Q ws cells slots q lv (.int v :: st)) : Gq p l e R s m args below meth c D A nL Q ws cells slots pc lv (.ref a :: st) := by
  subst hq
  exact fun H locs ls hP hD hS hl => va_alen C.1 C.2.1 C.2.2.2.2.2.1 hP q0 t0 ha ht hv d (kk H locs ls hP hD hS hl)
theorem g_mmax (C : Cx ss p l s m args meth c cc nL Ts own D tys A tb) {i : Nat} {x y : Int32} (h1 : (Cond.methodLink own i Lib.Math.max.name).before args s = true) (h2 : (Cond.static Lib.Math.max.name).before args s = true) (h3 : (Cond.initialized "java/lang/Math").before args s = true) (h4 : (Cond.code Lib.Math.max.name Lib.Math.max.code 2 (some .int)).before args s = true) (hf : 1 ≤ R.frames) (hlo : (st.map fun v => v.category).sum + 13 ≤ R.locals) (hc : cells ≤ R.cells) (hs : slots ≤ R.slots) (d : decode cc pc = .ok (.invokestatic i, 3)) (q : Nat) (hq : pc + 3 = q) (kk : Gq p l e R s m args below meth c D A nL Q ws cells slots q lv (.int (if x < y then y else x) :: st)) : Gq p l e R s m args below meth c D A nL Q ws cells slots pc lv (.int y :: .int x :: st) := by
  subst hq
  exact fun H locs ls hP hD hS hl => va_mmax C.1 C.2.1 (C.2.2.1.trans hl.1.symm) C.2.2.2.1 h1 h2 h3 h4 hf hlo hc hs d (kk H locs ls hP hD hS hl)
theorem g_mmin (C : Cx ss p l s m args meth c cc nL Ts own D tys A tb) {i : Nat} {x y : Int32} (h1 : (Cond.methodLink own i Lib.Math.min.name).before args s = true) (h2 : (Cond.static Lib.Math.min.name).before args s = true) (h3 : (Cond.initialized "java/lang/Math").before args s = true) (h4 : (Cond.code Lib.Math.min.name Lib.Math.min.code 2 (some .int)).before args s = true) (hf : 1 ≤ R.frames) (hlo : (st.map fun v => v.category).sum + 13 ≤ R.locals) (hc : cells ≤ R.cells) (hs : slots ≤ R.slots) (d : decode cc pc = .ok (.invokestatic i, 3)) (q : Nat) (hq : pc + 3 = q) (kk : Gq p l e R s m args below meth c D A nL Q ws cells slots q lv (.int (if y < x then y else x) :: st)) : Gq p l e R s m args below meth c D A nL Q ws cells slots pc lv (.int y :: .int x :: st) := by
  subst hq
  exact fun H locs ls hP hD hS hl => va_mmin C.1 C.2.1 (C.2.2.1.trans hl.1.symm) C.2.2.2.1 h1 h2 h3 h4 hf hlo hc hs d (kk H locs ls hP hD hS hl)
theorem g_copy (C : Cx ss p l s m args meth c cc nL Ts own D tys A tb) {i : Nat} {a a0 n0 n1 : Nat} {c0 c1 : ClassId} {f g : Nat → Int32} {sp dp n : Int32} (h1 : (Cond.methodLink own i arraycopyName).before args s = true) (h2 : (Cond.native arraycopyName).before args s = true) (h3 : (Cond.static arraycopyName).before args s = true) (h4 : (Cond.initialized "java/lang/System").before args s = true) (q0 q1 t0 t1 : Nat) (ha0 : ws[q0]? = some (a0, .inl (c0, n0, .inl f))) (ha1 : ws[q1]? = some (a, .inl (c1, n1, .inl g))) (ht0 : tys[t0]? = some (c0, .int)) (ht1 : tys[t1]? = some (c1, .int)) (b1 : ¬ sp < 0) (b2 : ¬ dp < 0) (b3 : ¬ n < 0) (b4 : sp.toNatClampNeg + n.toNatClampNeg ≤ n0) (b5 : dp.toNatClampNeg + n.toNatClampNeg ≤ n1) (hf : 1 ≤ R.frames) (hlo : (st.map fun v => v.category).sum + (nativeFrameWords "java/lang/System" "arraycopy" 5 + 11) ≤ R.locals) (hw : ws.set q1 (a, .inl (c1, n1, .inl (va_cpy f g sp.toNatClampNeg dp.toNatClampNeg n.toNatClampNeg))) = ws') (d : decode cc pc = .ok (.invokestatic i, 3)) (q : Nat) (hq : pc + 3 = q) (kk : Gq p l e R s m args below meth c D A nL Q ws' cells slots q lv st) : Gq p l e R s m args below meth c D A nL Q ws cells slots pc lv (.int n :: .int dp :: .ref a :: .int sp :: .ref a0 :: st) := by
  subst hq; subst hw
  exact fun H locs ls hP hD hS hl => va_copyi C.1 C.2.1 (C.2.2.1.trans hl.1.symm) C.2.2.2.1 h1 h2 h3 h4 C.2.2.2.2.2.1 hP hD hS q0 q1 t0 t1 ha0 ha1 ht0 ht1 rfl b1 b2 b3 b4 b5 (fun _ _ => rfl) hf hlo d (fun H locs hP hD hS => kk H locs ls hP hD hS hl)
/-! rows: ends -/
theorem g_iret (C : Cx ss p l s m args meth c cc nL Ts own D tys A tb) {W0 : va_W} {Rr : Oc → Prop} {mc ms : Nat} {v : Int32} (hr : meth.sig.returnType = some .int) (hR : Rr (.inr (some (.int v), ws))) (h1 : cells ≤ mc) (h2 : slots ≤ ms) (d : decode cc pc = .ok (.ireturn, 1)) : Gq p l e R s m args below meth c D A nL (CQ below D W0 Rr args s mc ms A) ws cells slots pc lv [.int v] :=
  fun H locs ls hP hD hS hl => W.widen h1 h2 (vx_ret (W.iret C.1 C.2.1 hr (fun t ht hW => ⟨⟨_, _, hR, rfl, by rw [ht]; exact hP, hD⟩, hS.F ht⟩) hS.2.2 d C.2.2.2.2.2.2.2.1))
theorem g_zret (C : Cx ss p l s m args meth c cc nL Ts own D tys A tb) {W0 : va_W} {Rr : Oc → Prop} {mc ms : Nat} {v : Int32} (hr : meth.sig.returnType = some .boolean) (hv : v = 0 ∨ v = 1) (hR : Rr (.inr (some (.int v), ws))) (h1 : cells ≤ mc) (h2 : slots ≤ ms) (d : decode cc pc = .ok (.ireturn, 1)) : Gq p l e R s m args below meth c D A nL (CQ below D W0 Rr args s mc ms A) ws cells slots pc lv [.int v] :=
  fun H locs ls hP hD hS hl => W.widen h1 h2 (vx_ret (W.zret C.1 C.2.1 hr (by rcases hv with rfl | rfl <;> rfl) (fun t ht hW => ⟨⟨_, _, hR, rfl, by rw [ht]; exact hP, hD⟩, hS.F ht⟩) hS.2.2 d C.2.2.2.2.2.2.2.1))
theorem g_lret (C : Cx ss p l s m args meth c cc nL Ts own D tys A tb) {W0 : va_W} {Rr : Oc → Prop} {mc ms : Nat} {v : Int64} (hr : meth.sig.returnType = some .long) (hR : Rr (.inr (some (.long v), ws))) (h1 : cells ≤ mc) (h2 : slots ≤ ms) (d : decode cc pc = .ok (.lreturn, 1)) : Gq p l e R s m args below meth c D A nL (CQ below D W0 Rr args s mc ms A) ws cells slots pc lv [.long v] :=
  fun H locs ls hP hD hS hl => W.widen h1 h2 (vx_ret (W.lret C.1 C.2.1 hr (fun t ht hW => ⟨⟨_, _, hR, rfl, by rw [ht]; exact hP, hD⟩, hS.F ht⟩) hS.2.2 d C.2.2.2.2.2.2.2.1))
theorem g_dret (C : Cx ss p l s m args meth c cc nL Ts own D tys A tb) {W0 : va_W} {Rr : Oc → Prop} {mc ms : Nat} {v : UInt64} (hr : meth.sig.returnType = some .double) (hR : Rr (.inr (some (.double v), ws))) (h1 : cells ≤ mc) (h2 : slots ≤ ms) (d : decode cc pc = .ok (.dreturn, 1)) : Gq p l e R s m args below meth c D A nL (CQ below D W0 Rr args s mc ms A) ws cells slots pc lv [.double v] :=
  fun H locs ls hP hD hS hl => W.widen h1 h2 (vx_ret (W.dret C.1 C.2.1 hr (fun t ht hW => ⟨⟨_, _, hR, rfl, by rw [ht]; exact hP, hD⟩, hS.F ht⟩) hS.2.2 d C.2.2.2.2.2.2.2.1))
theorem g_vret (C : Cx ss p l s m args meth c cc nL Ts own D tys A tb) {W0 : va_W} {Rr : Oc → Prop} {mc ms : Nat} (hr : meth.sig.returnType = none) (hR : Rr (.inr (none, ws))) (h1 : cells ≤ mc) (h2 : slots ≤ ms) (d : decode cc pc = .ok (.return_, 1)) : Gq p l e R s m args below meth c D A nL (CQ below D W0 Rr args s mc ms A) ws cells slots pc lv [] :=
  fun H locs ls hP hD hS hl => W.widen h1 h2 (vx_ret (W.vret C.1 C.2.1 hr (fun t ht hW => ⟨⟨_, _, hR, rfl, by rw [ht]; exact hP, hD⟩, hS.F ht⟩) hS.2.2 d C.2.2.2.2.2.2.2.1))
def nms : List String := ["java/lang/RuntimeException", "java/lang/Exception"]
theorem g_throw (C : Cx ss p l s m args meth c cc nL Ts own D tys A []) {W0 : va_W} {Rr : Oc → Prop} {mc ms ik is ic n : Nat} {text : String} (hss : (own, is, text) ∈ ss.1) (hk : (Cond.classLink own ik (xn n)).before args s = true) (hini : (Cond.initialized (xn n)).before args s = true) (hat : ∀ w ∈ (vx_atS own ic (xn n) nms).filter goodWord, w.before args s = true) (h2 : ∀ w ∈ (vx_atS own ic (xn n) nms).filter (fun w => !goodWord w), w ∈ ev_w) (hgood : ∀ w ∈ Cond.classLink own ik (xn n) :: Cond.initialized (xn n) :: vx_atS own ic (xn n) nms, vx_ot w = true) (hfit : Bundle.fit (xn n) = true) (hR : Rr (.inl n)) (hW0 : ws = W0) (hRf : 5 < R.frames) (hRl : (st.map fun v => v.category).sum + 82 ≤ R.locals) (hc : cells + 1 ≤ R.cells) (hs : slots + 6 ≤ R.slots) (hc1 : cells + 1 ≤ mc) (hs1 : slots + 6 ≤ ms)
    (d0 : decode cc pc = .ok (.new ik, 3)) (d3 : decode cc (pc + 3) = .ok (.dup, 1)) (d4 : decode cc (pc + 4) = .ok (.ldc is, 2)) (d6 : decode cc (pc + 6) = .ok (.invokespecial ic, 3)) (d9 : decode cc (pc + 9) = .ok (.athrow, 1)) : Gq p l e R s m args below meth c D A nL (CQ below D W0 Rr args s mc ms A) ws cells slots pc lv st := by
  subst hW0
  intro H locs ls hP hD hS hl
  obtain ⟨sa, hsa⟩ := C.2.2.2.2.2.2.2.2.1.2.2.2.1 _ hss
  have E := C.2.2.2.2.2.2.2.2.1
  have hxl : ∀ x ∈ c.exceptionTable.toList, covers x (pc + 9) = false := by
    rw [C.2.2.2.2.2.2.2.2.2.1]
    intro x hx
    cases hx
  refine vx_throwS (names := nms) C.1 C.2.1 C.2.2.2.2.2.2.2.2.2.2 C.2.2.2.1 hfit (by decide +kernel) hk hini hsa (vx_hat (B := ev_w) hat h2 (fun w hw => (E.2.2.1 w hw).use (ev_on w hw))) hgood E.1 E.2.1 hS (hl.1.trans C.2.2.1.symm) d0 d3 d4 d6 d9 hxl hRf hRl hc hs C.2.2.2.2.2.2.2.1 ?_ hS.2.2 hc1 hs1
  intro t hal hsz hk
  refine ⟨⟨n, hR, rfl, ?_, hD⟩, Nat.le_trans hS.1 hsz, fun q h1 h2 => by rw [hk q (Nat.lt_of_lt_of_le h1 hS.1)]; exact hS.2.1 q h1 h2⟩
  rw [vpm] at hP ⊢
  exact fun q hq => (hP q hq).kept (hk q.1 (hP q hq).lt)
/-- not caught: it goes on -/
theorem g_xout (C : Cx ss p l s m args meth c cc nL Ts own D tys A []) {W0 : va_W} {Rr : Oc → Prop} {mc ms n : Nat} (hR : Rr (.inl n)) (hW0 : ws = W0) (hc1 : cells ≤ mc) (hs1 : slots ≤ ms) : Gx p l e R s m args below meth c D A nL (CQ below D W0 Rr args s mc ms A) ws cells slots pc lv n := by
  subst hW0
  intro H locs ls rest q ce hP hD hS hl hce hcv hcl
  have hxl : ∀ x ∈ c.exceptionTable.toList, covers x pc = false := by
    rw [C.2.2.2.2.2.2.2.2.2.1]
    intro x hx
    cases hx
  exact vx_out hxl C.2.2.2.2.2.2.2.1 hce hcv hcl (fun t ht hal => ⟨⟨n, hR, rfl, by rw [ht]; exact hP, hD⟩, hS.F ht⟩) hS.2.2 hc1 hs1
/-- caught by the row x of the table -/
theorem g_xcatch (C : Cx ss p l s m args meth c cc nL Ts own D tys A tb) {n : Nat} (pre : List ExceptionTableEntry) (x : ExceptionTableEntry) (suf : List ExceptionTableEntry) (hsplit : tb = pre ++ x :: suf) (hpass : ∀ z ∈ pre, z.catchType ≠ 0 ∧ ∃ nm : String, (Cond.classLink own z.catchType nm).before args s = true ∧ (xn n, nm) ∈ ev_n) (hx : covers x pc = true) (h0 : x.catchType ≠ 0) (hlink : (Cond.classLink own x.catchType (xn n)).before args s = true) (hcast : Cond.castable (xn n) (xn n) ∈ ev_w) (q : Nat) (hq : x.handlerPc = q)
    (kk : ∀ z, Gq p l e R s m args below meth c D A nL Q ws cells slots q lv [.ref z]) : Gx p l e R s m args below meth c D A nL Q ws cells slots pc lv n := by
  subst hq
  intro H locs ls rest z ce hP hD hS hl hce hcv hcl
  have E := C.2.2.2.2.2.2.2.2.1
  exact vx_catch C.2.2.2.1 pre x suf (by rw [C.2.2.2.2.2.2.2.2.2.1]; exact hsplit) (fun y hy => Or.inr ⟨(hpass y hy).1, by
    obtain ⟨nm, h1, h2⟩ := (hpass y hy).2
    exact ⟨nm, h1, E.2.2.2.2.1 _ h2⟩⟩) hx h0 hlink ((E.2.2.1 _ hcast).use rfl) hce hcv hcl (kk z H locs ls hP hD hS hl)
/-! rows: calls -/
theorem ct_blind {As : List Value} {W0 : va_W} {sz : Nat} : FrameBlind (va_Pc As (CtP ss D tys W0 sz)) := by
  intro a U g mk h
  obtain ⟨h1, h2, h3, h4, h5, h6⟩ := h
  exact ⟨h1, h2, h3, va_K.moved (u := U) (U := U.calling g mk a) (Vm.Alike.refl U.vm) h4, h5, Env9.same (u := U) (U := U.calling g mk a) rfl rfl h6⟩
theorem ct_pre (C : Cx ss p l s m args meth c cc nL Ts own D tys A tb) {As : List Value} {W0 : va_W} {H : Heap} {locs : List Loc} (hP : va_P D vwCl W0 H) (hD : va_D A W0) (hS : va_S A s.heap H locs) (hF : ∀ q, va_A W0 H.size q → A q) (U : State) (hU : U.heap = H) (hW : s.WarmedH U.vm) : va_Pc As (CtP ss D tys W0 H.size) As.toArray U :=
  ⟨rfl, by rw [hU], by rw [hU]; exact hP, va_K.moved hW.alike C.2.2.2.2.2.1, hD.weaken (fun _ _ _ _ => trivial), C.2.2.2.2.2.2.2.2.1.call hS hU hW hF⟩
theorem ct_free (C : Cx ss p l s m args meth c cc nL Ts own D tys A tb) {W0 : va_W} {H : Heap} {locs : List Loc} (hD : va_D A W0) (hS : va_S A s.heap H locs) : ∀ q, va_A W0 H.size q → A q := by
  intro q h
  rcases va_Am.mp h with ⟨e, he, rfl⟩ | h
  · exact (vdm.mp hD).2 e he
  · exact C.2.2.2.2.2.2.1 q (Nat.le_trans hS.1 h)
/-- behind any run of a callee's contract -/
theorem g_run (C : Cx ss p l s m args meth c cc nL Ts own D tys A tb) {rest : List Value} {W0 wl wr : va_W} {Rr : Oc → Prop} {mc ms c2 s2 : Nat} {a : Array Value} {H : Heap} {locs : List Loc} {ls : Array Slot}
    (hP : va_P D vwCl (wl ++ (W0 ++ wr)) H) (hD : va_D A (wl ++ (W0 ++ wr))) (hS : va_S A s.heap H locs) (hl : lv_has ls nL lv) (hc2 : cells + mc = c2) (hs2 : slots + ms = s2) (hq : pc + 3 = q)
    (hr : vx_Run p l e R s m args below meth c H locs cells slots mc ms (F0 m pc ls st) rest (CtR D Rr (va_A W0 H.size) a) (CtX D W0 Rr (va_A W0 H.size)) (va_A W0 H.size))
    (kx : ∀ n, Rr (.inl n) → Gx p l e R s m args below meth c D A nL Q (wl ++ (W0 ++ wr)) c2 s2 pc lv n)
    (kk : ∀ rv W1, Rr (.inr (rv, W1)) → Gq p l e R s m args below meth c D A nL Q (wl ++ (W1 ++ wr)) c2 s2 q lv (rv.toList ++ rest)) : W p l e R s m args below meth c H locs cells slots Q (F0 m pc ls st) := by
  subst hc2; subst hs2; subst hq
  have hF := ct_free C (vd_app.mp (vd_app.mp hD).2.1).1 hS
  intro T hT X
  rcases hr T hT X with ⟨v, st₀, t, T', L, h0, X', hL, e1, e2, ⟨⟨rv, W1, hRr, hv, hP1, hD1⟩, hFr⟩, hgo⟩ | ⟨z, st₀, t, T', L, E, ce, h0, X', hL, e1, e2, ⟨⟨n, hRr, rfl, hP1, hD1⟩, hFr⟩, hce, hcv, hcl, hst⟩
  · obtain ⟨k1, k2, k3⟩ := vx_keep h0 e1 hS (fun q _ h => hF q h) hF hL hFr
    cases hv
    obtain ⟨hP2, hD2⟩ := jn hP hD k2 hF (by rw [e1]; exact hP1) hD1
    obtain ⟨t2, a1, b1⟩ := kk v W1 hRr T'.heap (locs ++ L) ls hP2 hD2 k3 hl T' rfl X'
    exact ⟨t2, hgo t2 a1, b1⟩
  · obtain ⟨k1, k2, k3⟩ := vx_keep h0 e1 hS (fun q _ h => hF q h) hF hL hFr
    obtain ⟨hP2, hD2⟩ := jn hP hD k2 hF (by rw [e1]; exact hP1) hD1
    obtain ⟨t2, a1, b1⟩ := kx n hRr T'.heap (locs ++ L) ls rest z ce hP2 hD2 k3 hl (by rw [e1]; exact hce) hcv hcl T' rfl X'
    exact ⟨t2, hst.trans a1, b1⟩
theorem g_callV (C : Cx ss p l s m args meth c cc nL Ts own D tys A tb) {y : MethodName} {w0 : List Cond} {rm : Room} {bytes : ByteArray} {maxL n mc ms i b ci q0 : Nat} {ret : Option FieldType} {Cn : String} {As rest : List Value} {W0 wl wr : va_W} {Rr : Oc → Prop} {fs : List Value} {qc : vw_C} {c2 s2 : Nat}
    (hct : Ct ss l y w0 rm D tys (.ref b :: As) W0 Rr mc ms) (cf : CF y w0 rm bytes maxL ret n mc ms Cn) (hg : GoodIn Ts (wsV own i Cn y w0)) (hR : rm.frames + 1 ≤ R.frames ∧ 8 + (maxL + 11) + rm.locals ≤ R.locals)
    (he : W0[q0]? = some (b, .inr (ci, fs))) (hc : vwCl[ci]? = some qc) (hcn : qc.1 = Cn) (hws : ws = wl ++ (W0 ++ wr)) (hst : st = As.reverse ++ .ref b :: rest) (hn : As.length = n) (hrest : (rest.map fun v => v.category).sum ≤ 8) (hc2 : cells + mc = c2) (hs2 : slots + ms = s2) (hf : c2 ≤ R.cells ∧ s2 ≤ R.slots) (d : decode cc pc = .ok (.invokevirtual i, 3)) (q : Nat) (hq : pc + 3 = q)
    (kx : ∀ n, Rr (.inl n) → Gx p l e R s m args below meth c D A nL Q ws c2 s2 pc lv n)
    (kk : ∀ rv W1, Rr (.inr (rv, W1)) → Gq p l e R s m args below meth c D A nL Q (wl ++ (W1 ++ wr)) c2 s2 q lv (rv.toList ++ rest)) : Gq p l e R s m args below meth c D A nL Q ws cells slots pc lv st := by
  subst hws
  intro H locs ls hP hD hS hl
  obtain ⟨⟨ws', hw⟩, hrc, hrs, hy, hy1, hy2, hdesc⟩ := cf
  have hP0 : va_P D vwCl W0 H := (vp_app.mp (vp_app.mp hP).2).1
  have hD0 : va_D A W0 := (vd_app.mp (vd_app.mp hD).2.1).1
  have hF := ct_free C hD0 hS
  have cw := cwV (R := R) (s := s) (args := args) (own := own) (index := i) (C := Cn) (y := y) (ret := ret) (maxL := maxL) (bytes := bytes) (rm := rm) (mc := mc) (ms := ms) n C.2.2.2.2.1 hg hw hrc hrs ⟨hy, hy1, hy2, hdesc⟩ hR
  have hrcv := va_recv C.2.2.2.2.2.1 hP0 hc he
  rw [hcn] at hrcv
  exact g_run C hP hD hS hl hc2 hs2 hq (vx_runV (As := As) (rest := rest) ⟨C.1, C.2.1, C.2.2.1, C.2.2.2.1, C.2.2.2.2.1⟩ (hct H.size) cw ⟨ct_blind, hrcv, fun U hU hW => ct_pre C hP0 hD0 hS hF U hU hW⟩ rfl hn hl.1 hst (lv_room hrest) d ⟨by omega, by omega⟩) kx kk
theorem g_callS (C : Cx ss p l s m args meth c cc nL Ts own D tys A tb) {y : MethodName} {w0 : List Cond} {rm : Room} {bytes : ByteArray} {maxL n mc ms i : Nat} {ret : Option FieldType} {Cn : String} {As rest : List Value} {W0 wl wr : va_W} {Rr : Oc → Prop} {c2 s2 : Nat}
    (hct : Ct ss l y w0 rm D tys As W0 Rr mc ms) (cf : CF y w0 rm bytes maxL ret n mc ms Cn) (hg : GoodIn Ts (va_wsS own i y w0)) (hR : rm.frames + 1 ≤ R.frames ∧ 8 + (maxL + 11) + rm.locals ≤ R.locals)
    (hws : ws = wl ++ (W0 ++ wr)) (hst : st = As.reverse ++ rest) (hn : As.length = n) (hrest : (rest.map fun v => v.category).sum ≤ 8) (hc2 : cells + mc = c2) (hs2 : slots + ms = s2) (hf : c2 ≤ R.cells ∧ s2 ≤ R.slots) (d : decode cc pc = .ok (.invokestatic i, 3)) (q : Nat) (hq : pc + 3 = q)
    (kx : ∀ n, Rr (.inl n) → Gx p l e R s m args below meth c D A nL Q ws c2 s2 pc lv n)
    (kk : ∀ rv W1, Rr (.inr (rv, W1)) → Gq p l e R s m args below meth c D A nL Q (wl ++ (W1 ++ wr)) c2 s2 q lv (rv.toList ++ rest)) : Gq p l e R s m args below meth c D A nL Q ws cells slots pc lv st := by
  subst hws
  intro H locs ls hP hD hS hl
  obtain ⟨⟨ws', hw⟩, hrc, hrs, hy, hy1, hy2, hdesc⟩ := cf
  have hP0 : va_P D vwCl W0 H := (vp_app.mp (vp_app.mp hP).2).1
  have hD0 : va_D A W0 := (vd_app.mp (vd_app.mp hD).2.1).1
  have hF := ct_free C hD0 hS
  have cw := va_cwS (R := R) (s := s) (args := args) (own := own) (index := i) (y := y) (ret := ret) (maxL := maxL) (bytes := bytes) (rm := rm) (mc := mc) (ms := ms) n C.2.2.2.2.1 hg hw hrc hrs ⟨hy1, hy2, hdesc⟩ hR
  exact g_run C hP hD hS hl hc2 hs2 hq (vx_runS (As := As) (rest := rest) ⟨C.1, C.2.1, C.2.2.1, C.2.2.2.1, C.2.2.2.2.1⟩ (hct H.size) cw ⟨ct_blind, fun U hU hW => ct_pre C hP0 hD0 hS hF U hU hW⟩ rfl hn hl.1 hst (lv_room hrest) d ⟨by omega, by omega⟩) kx kk
/-- of a method with a table -/
def CFH (y : MethodName) (ws : List Cond) (rm : Room) (bytes : ByteArray) (maxL : Nat) (ret : Option FieldType) (hh : List (Nat × Nat × Nat × Nat)) (n mc ms : Nat) : Prop :=
  (∃ ws', ws = Cond.codeWith y bytes maxL ret hh :: ws') ∧ rm.cells = mc ∧ rm.slots = ms ∧ y.cls ≠ "java/lang/invoke/MethodHandle" ∧ y.cls ≠ "java/lang/invoke/VarHandle" ∧ (parseMethodDescriptor y.desc).map (fun d => d.parameters.length) = some n
theorem g_callSH (C : Cx ss p l s m args meth c cc nL Ts own D tys A tb) {y : MethodName} {w0 : List Cond} {rm : Room} {bytes : ByteArray} {maxL n mc ms i : Nat} {ret : Option FieldType} {hh : List (Nat × Nat × Nat × Nat)} {As rest : List Value} {W0 wl wr : va_W} {Rr : Oc → Prop} {c2 s2 : Nat}
    (hct : Ct ss l y w0 rm D tys As W0 Rr mc ms) (cf : CFH y w0 rm bytes maxL ret hh n mc ms) (hg : GoodIn Ts (va_wsS own i y w0)) (hR : rm.frames + 1 ≤ R.frames ∧ 8 + (maxL + 11) + rm.locals ≤ R.locals)
    (hws : ws = wl ++ (W0 ++ wr)) (hst : st = As.reverse ++ rest) (hn : As.length = n) (hrest : (rest.map fun v => v.category).sum ≤ 8) (hc2 : cells + mc = c2) (hs2 : slots + ms = s2) (hf : c2 ≤ R.cells ∧ s2 ≤ R.slots) (d : decode cc pc = .ok (.invokestatic i, 3)) (q : Nat) (hq : pc + 3 = q)
    (kx : ∀ n, Rr (.inl n) → Gx p l e R s m args below meth c D A nL Q ws c2 s2 pc lv n)
    (kk : ∀ rv W1, Rr (.inr (rv, W1)) → Gq p l e R s m args below meth c D A nL Q (wl ++ (W1 ++ wr)) c2 s2 q lv (rv.toList ++ rest)) : Gq p l e R s m args below meth c D A nL Q ws cells slots pc lv st := by
  subst hws
  intro H locs ls hP hD hS hl
  obtain ⟨⟨ws', hw⟩, hrc, hrs, hy1, hy2, hdesc⟩ := cf
  have hP0 : va_P D vwCl W0 H := (vp_app.mp (vp_app.mp hP).2).1
  have hD0 : va_D A W0 := (vd_app.mp (vd_app.mp hD).2.1).1
  have hF := ct_free C hD0 hS
  have cw := vx_cwSW (R := R) (s := s) (args := args) (own := own) (index := i) (y := y) (ret := ret) (hh := hh) (maxL := maxL) (bytes := bytes) (rm := rm) (mc := mc) (ms := ms) n C.2.2.2.2.1 hg hw hrc hrs ⟨hy1, hy2, hdesc⟩ hR
  exact g_run C hP hD hS hl hc2 hs2 hq (vx_runSX (As := As) (rest := rest) ⟨C.1, C.2.1, C.2.2.1, C.2.2.2.1, C.2.2.2.2.1⟩ (hct H.size) cw ⟨ct_blind, fun U hU hW => ct_pre C hP0 hD0 hS hF U hU hW⟩ rfl hn hl.1 hst (lv_room hrest) d ⟨by omega, by omega⟩) kx kk
theorem g_callV1 (C : Cx ss p l s m args meth c cc nL Ts own D tys A tb) {y : MethodName} {w0 : List Cond} {rm : Room} {bytes : ByteArray} {maxL n mc ms i b ci q0 : Nat} {ret : Option FieldType} {Cn : String} {As rest : List Value} {W0 wl wr : va_W} {rv : Option Value} {W1 ws2 : va_W} {st2 : List Value} {fs : List Value} {qc : vw_C} {c2 s2 : Nat}
    (hct : Ct ss l y w0 rm D tys (.ref b :: As) W0 (fun o => o = .inr (rv, W1)) mc ms) (cf : CF y w0 rm bytes maxL ret n mc ms Cn) (hg : GoodIn Ts (wsV own i Cn y w0)) (hR : rm.frames + 1 ≤ R.frames ∧ 8 + (maxL + 11) + rm.locals ≤ R.locals)
    (he : W0[q0]? = some (b, .inr (ci, fs))) (hc : vwCl[ci]? = some qc) (hcn : qc.1 = Cn) (hws : ws = wl ++ (W0 ++ wr)) (hst : st = As.reverse ++ .ref b :: rest) (hn : As.length = n) (hrest : (rest.map fun v => v.category).sum ≤ 8) (hc2 : cells + mc = c2) (hs2 : slots + ms = s2) (hf : c2 ≤ R.cells ∧ s2 ≤ R.slots) (d : decode cc pc = .ok (.invokevirtual i, 3)) (q : Nat) (hq : pc + 3 = q)
    (hw2 : wl ++ (W1 ++ wr) = ws2) (hs3 : rv.toList ++ rest = st2) (kk : Gq p l e R s m args below meth c D A nL Q ws2 c2 s2 q lv st2) : Gq p l e R s m args below meth c D A nL Q ws cells slots pc lv st := by
  subst hw2; subst hs3
  exact g_callV C hct cf hg hR he hc hcn hws hst hn hrest hc2 hs2 hf d q hq (fun _ h => by cases h) (fun rv W1 h => by cases h; exact kk)
theorem g_callVx (C : Cx ss p l s m args meth c cc nL Ts own D tys A tb) {y : MethodName} {w0 : List Cond} {rm : Room} {bytes : ByteArray} {maxL n mc ms i b ci q0 : Nat} {ret : Option FieldType} {Cn : String} {As rest : List Value} {W0 wl wr : va_W} {ne : Nat} {fs : List Value} {qc : vw_C} {c2 s2 : Nat}
    (hct : Ct ss l y w0 rm D tys (.ref b :: As) W0 (fun o => o = .inl ne) mc ms) (cf : CF y w0 rm bytes maxL ret n mc ms Cn) (hg : GoodIn Ts (wsV own i Cn y w0)) (hR : rm.frames + 1 ≤ R.frames ∧ 8 + (maxL + 11) + rm.locals ≤ R.locals)
    (he : W0[q0]? = some (b, .inr (ci, fs))) (hc : vwCl[ci]? = some qc) (hcn : qc.1 = Cn) (hws : ws = wl ++ (W0 ++ wr)) (hst : st = As.reverse ++ .ref b :: rest) (hn : As.length = n) (hrest : (rest.map fun v => v.category).sum ≤ 8) (hc2 : cells + mc = c2) (hs2 : slots + ms = s2) (hf : c2 ≤ R.cells ∧ s2 ≤ R.slots) (d : decode cc pc = .ok (.invokevirtual i, 3)) (q : Nat) (hq : pc + 3 = q)
    (kx : Gx p l e R s m args below meth c D A nL Q ws c2 s2 pc lv ne) : Gq p l e R s m args below meth c D A nL Q ws cells slots pc lv st := by
  exact g_callV C hct cf hg hR he hc hcn hws hst hn hrest hc2 hs2 hf d q hq (fun n h => by cases h; exact kx) (fun _ _ h => by cases h)
theorem g_callS1 (C : Cx ss p l s m args meth c cc nL Ts own D tys A tb) {y : MethodName} {w0 : List Cond} {rm : Room} {bytes : ByteArray} {maxL n mc ms i : Nat} {ret : Option FieldType} {Cn : String} {As rest : List Value} {W0 wl wr : va_W} {rv : Option Value} {W1 ws2 : va_W} {st2 : List Value} {c2 s2 : Nat}
    (hct : Ct ss l y w0 rm D tys As W0 (fun o => o = .inr (rv, W1)) mc ms) (cf : CF y w0 rm bytes maxL ret n mc ms Cn) (hg : GoodIn Ts (va_wsS own i y w0)) (hR : rm.frames + 1 ≤ R.frames ∧ 8 + (maxL + 11) + rm.locals ≤ R.locals)
    (hws : ws = wl ++ (W0 ++ wr)) (hst : st = As.reverse ++ rest) (hn : As.length = n) (hrest : (rest.map fun v => v.category).sum ≤ 8) (hc2 : cells + mc = c2) (hs2 : slots + ms = s2) (hf : c2 ≤ R.cells ∧ s2 ≤ R.slots) (d : decode cc pc = .ok (.invokestatic i, 3)) (q : Nat) (hq : pc + 3 = q)
    (hw2 : wl ++ (W1 ++ wr) = ws2) (hs3 : rv.toList ++ rest = st2) (kk : Gq p l e R s m args below meth c D A nL Q ws2 c2 s2 q lv st2) : Gq p l e R s m args below meth c D A nL Q ws cells slots pc lv st := by
  subst hw2; subst hs3
  exact g_callS C hct cf hg hR hws hst hn hrest hc2 hs2 hf d q hq (fun _ h => by cases h) (fun rv W1 h => by cases h; exact kk)
theorem g_callSx (C : Cx ss p l s m args meth c cc nL Ts own D tys A tb) {y : MethodName} {w0 : List Cond} {rm : Room} {bytes : ByteArray} {maxL n mc ms i : Nat} {ret : Option FieldType} {Cn : String} {As rest : List Value} {W0 wl wr : va_W} {ne : Nat} {c2 s2 : Nat}
    (hct : Ct ss l y w0 rm D tys As W0 (fun o => o = .inl ne) mc ms) (cf : CF y w0 rm bytes maxL ret n mc ms Cn) (hg : GoodIn Ts (va_wsS own i y w0)) (hR : rm.frames + 1 ≤ R.frames ∧ 8 + (maxL + 11) + rm.locals ≤ R.locals)
    (hws : ws = wl ++ (W0 ++ wr)) (hst : st = As.reverse ++ rest) (hn : As.length = n) (hrest : (rest.map fun v => v.category).sum ≤ 8) (hc2 : cells + mc = c2) (hs2 : slots + ms = s2) (hf : c2 ≤ R.cells ∧ s2 ≤ R.slots) (d : decode cc pc = .ok (.invokestatic i, 3)) (q : Nat) (hq : pc + 3 = q)
    (kx : Gx p l e R s m args below meth c D A nL Q ws c2 s2 pc lv ne) : Gq p l e R s m args below meth c D A nL Q ws cells slots pc lv st := by
  exact g_callS C hct cf hg hR hws hst hn hrest hc2 hs2 hf d q hq (fun n h => by cases h; exact kx) (fun _ _ h => by cases h)
theorem g_callSH1 (C : Cx ss p l s m args meth c cc nL Ts own D tys A tb) {y : MethodName} {w0 : List Cond} {rm : Room} {bytes : ByteArray} {maxL n mc ms i : Nat} {ret : Option FieldType} {hh : List (Nat × Nat × Nat × Nat)} {As rest : List Value} {W0 wl wr : va_W} {rv : Option Value} {W1 ws2 : va_W} {st2 : List Value} {c2 s2 : Nat}
    (hct : Ct ss l y w0 rm D tys As W0 (fun o => o = .inr (rv, W1)) mc ms) (cf : CFH y w0 rm bytes maxL ret hh n mc ms) (hg : GoodIn Ts (va_wsS own i y w0)) (hR : rm.frames + 1 ≤ R.frames ∧ 8 + (maxL + 11) + rm.locals ≤ R.locals)
    (hws : ws = wl ++ (W0 ++ wr)) (hst : st = As.reverse ++ rest) (hn : As.length = n) (hrest : (rest.map fun v => v.category).sum ≤ 8) (hc2 : cells + mc = c2) (hs2 : slots + ms = s2) (hf : c2 ≤ R.cells ∧ s2 ≤ R.slots) (d : decode cc pc = .ok (.invokestatic i, 3)) (q : Nat) (hq : pc + 3 = q)
    (hw2 : wl ++ (W1 ++ wr) = ws2) (hs3 : rv.toList ++ rest = st2) (kk : Gq p l e R s m args below meth c D A nL Q ws2 c2 s2 q lv st2) : Gq p l e R s m args below meth c D A nL Q ws cells slots pc lv st := by
  subst hw2; subst hs3
  exact g_callSH C hct cf hg hR hws hst hn hrest hc2 hs2 hf d q hq (fun _ h => by cases h) (fun rv W1 h => by cases h; exact kk)
theorem g_callSHx (C : Cx ss p l s m args meth c cc nL Ts own D tys A tb) {y : MethodName} {w0 : List Cond} {rm : Room} {bytes : ByteArray} {maxL n mc ms i : Nat} {ret : Option FieldType} {hh : List (Nat × Nat × Nat × Nat)} {As rest : List Value} {W0 wl wr : va_W} {ne : Nat} {c2 s2 : Nat}
    (hct : Ct ss l y w0 rm D tys As W0 (fun o => o = .inl ne) mc ms) (cf : CFH y w0 rm bytes maxL ret hh n mc ms) (hg : GoodIn Ts (va_wsS own i y w0)) (hR : rm.frames + 1 ≤ R.frames ∧ 8 + (maxL + 11) + rm.locals ≤ R.locals)
    (hws : ws = wl ++ (W0 ++ wr)) (hst : st = As.reverse ++ rest) (hn : As.length = n) (hrest : (rest.map fun v => v.category).sum ≤ 8) (hc2 : cells + mc = c2) (hs2 : slots + ms = s2) (hf : c2 ≤ R.cells ∧ s2 ≤ R.slots) (d : decode cc pc = .ok (.invokestatic i, 3)) (q : Nat) (hq : pc + 3 = q)
    (kx : Gx p l e R s m args below meth c D A nL Q ws c2 s2 pc lv ne) : Gq p l e R s m args below meth c D A nL Q ws cells slots pc lv st := by
  exact g_callSH C hct cf hg hR hws hst hn hrest hc2 hs2 hf d q hq (fun n h => by cases h; exact kx) (fun _ _ h => by cases h)
end GB
