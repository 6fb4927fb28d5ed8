/-! SIM: more instructions, rows of rows, the law's own object (laid by wip/p35/gen/sim.py) -/
section GS
variable {ss : Ev} {p : Program} {l : Launch} {e : Env} {R : Room} {s : State} {m : MethodId} {args : Array Value} {below : List Frame} {meth : Method} {c : Code} {Q : State → Prop}
variable {D : va_G} {A : Nat → Prop} {tys : List (ClassId × FieldType)} {Ts : List Cond} {own : String} {cc : ByteArray} {nL : Nat} {tb : List ExceptionTableEntry} {ws ws' : va_W} {cells slots pc q : Nat} {lv lv' : List (Nat × Value)} {st : List Value}
theorem g_sipush (C : Cx ss p l s m args meth c cc nL Ts own D tys A tb) {n : Int} {v : Int32} (hv : (Int16.ofInt n).toInt32 = v) (d : decode cc pc = .ok (.sipush n, 3)) (q : Nat) (hq : pc + 3 = q) (kk : Gq p l e R s m args below meth c D A nL Q ws cells slots q lv (.int v :: st)) : Gq p l e R s m args below meth c D A nL Q ws cells slots pc lv st := by
  subst hq
  exact fun H locs ls hP hD hS hl => lv_sipush C.1 C.2.1 d hv (kk H locs ls hP hD hS hl)
theorem g_ldc (C : Cx ss p l s m args meth c cc nL Ts own D tys A tb) {i : Nat} {v : Int32} (hw : (Cond.constant own i v).before args s = true) (d : decode cc pc = .ok (.ldc i, 2)) (q : Nat) (hq : pc + 2 = q) (kk : Gq p l e R s m args below meth c D A nL Q ws cells slots q lv (.int v :: st)) : Gq p l e R s m args below meth c D A nL Q ws cells slots pc lv st := by
  subst hq
  exact fun H locs ls hP hD hS hl => lv_ldc C.1 C.2.1 C.2.2.2.1 hw d (kk H locs ls hP hD hS hl)
theorem g_irem (C : Cx ss p l s m args meth c cc nL Ts own D tys A tb) {x y : Int32} (hy : ¬ y = 0) (d : decode cc pc = .ok (.irem, 1)) (q : Nat) (hq : pc + 1 = q) (kk : Gq p l e R s m args below meth c D A nL Q ws cells slots q lv (.int (x - x / y * y) :: st)) : Gq p l e R s m args below meth c D A nL Q ws cells slots pc lv (.int y :: .int x :: st) := by
  subst hq
  exact fun H locs ls hP hD hS hl => lv_irem C.1 C.2.1 d hy (kk H locs ls hP hD hS hl)
theorem g_ishr (C : Cx ss p l s m args meth c cc nL Ts own D tys A tb) {x y : Int32} (d : decode cc pc = .ok (.ishr, 1)) (q : Nat) (hq : pc + 1 = q) (kk : Gq p l e R s m args below meth c D A nL Q ws cells slots q lv (.int (x >>> (y &&& 31)) :: st)) : Gq p l e R s m args below meth c D A nL Q ws cells slots pc lv (.int y :: .int x :: st) := by
  subst hq
  exact fun H locs ls hP hD hS hl => lv_ishr C.1 C.2.1 d (kk H locs ls hP hD hS hl)
theorem g_if_ge (C : Cx ss p l s m args meth c cc nL Ts own D tys A tb) {x : Int32} {off : Int} (d : decode cc pc = .ok (.ifCond .ge off, 3)) (tgt q : Nat) (ht : (pc : Int) + off = (tgt : Int)) (hq : pc + 3 = q) (kt : 0 ≤ x → Gq p l e R s m args below meth c D A nL Q ws cells slots tgt lv st) (kf : ¬ 0 ≤ x → Gq p l e R s m args below meth c D A nL Q ws cells slots q lv st) : Gq p l e R s m args below meth c D A nL Q ws cells slots pc lv (.int x :: st) := by
  subst hq
  exact fun H locs ls hP hD hS hl => lv_if_ge C.1 C.2.1 d ht (fun h => kt h H locs ls hP hD hS hl) (fun h => kf h H locs ls hP hD hS hl)
theorem g_nonnull (C : Cx ss p l s m args meth c cc nL Ts own D tys A tb) {x : Nat} {off : Int} (d : decode cc pc = .ok (.ifnonnull off, 3)) (tgt : Nat) (ht : (pc : Int) + off = (tgt : Int)) (kk : Gq p l e R s m args below meth c D A nL Q ws cells slots tgt lv st) : Gq p l e R s m args below meth c D A nL Q ws cells slots pc lv (.ref x :: st) :=
  fun H locs ls hP hD hS hl => lv_ifnonnull C.1 C.2.1 d ht (kk H locs ls hP hD hS hl)
theorem g_aret (C : Cx ss p l s m args meth c cc nL Ts own D tys A tb) {W0 : va_W} {Rr : Oc → Prop} {mc ms a : Nat} {rt : FieldType} (hr : meth.sig.returnType = some rt) (hrt : (∃ n, rt = .object n) ∨ ∃ t, rt = .array t) (hR : Rr (.inr (some (.ref a), ws))) (h1 : cells ≤ mc) (h2 : slots ≤ ms) (d : decode cc pc = .ok (.areturn, 1)) : Gq p l e R s m args below meth c D A nL (CQ below D W0 Rr args s mc ms A) ws cells slots pc lv [.ref a] :=
  fun H locs ls hP hD hS hl => W.widen h1 h2 (vx_ret (W.aret C.1 C.2.1 hr hrt (Or.inr ⟨a, rfl⟩) (fun t ht hW => ⟨⟨_, _, hR, rfl, by rw [ht]; exact hP, hD⟩, hS.F ht⟩) hS.2.2 d C.2.2.2.2.2.2.2.1))
theorem g_tabD (C : Cx ss p l s m args meth c cc nL Ts own D tys A tb) {dflt lo hi : Int} {offs : Array Int} {len : Nat} {x : Int32} (d : decode cc pc = .ok (.tableswitch dflt lo hi offs, len)) (h : x.toInt < lo ∨ hi < x.toInt) (q : Nat) (hq : (pc : Int) + dflt = (q : Int)) (kk : Gq p l e R s m args below meth c D A nL Q ws cells slots q lv st) : Gq p l e R s m args below meth c D A nL Q ws cells slots pc lv (.int x :: st) :=
  fun H locs ls hP hD hS hl => lv_tableOut C.1 C.2.1 d h hq (kk H locs ls hP hD hS hl)
theorem out3 {x : Int32} {a b c : Int32} (ha : ¬ x = a) (hb : ¬ x = b) (hc : ¬ x = c) (h1 : b.toInt = a.toInt + 1) (h2 : c.toInt = a.toInt + 2) : x.toInt < a.toInt ∨ c.toInt < x.toInt := by
  have e1 : x.toInt ≠ a.toInt := fun h => ha (Int32.toInt_inj.mp h)
  have e2 : x.toInt ≠ b.toInt := fun h => hb (Int32.toInt_inj.mp h)
  have e3 : x.toInt ≠ c.toInt := fun h => hc (Int32.toInt_inj.mp h)
  omega
/-- references, as an array holds them -/
abbrev oQ (f : Nat → Option Nat) : (Nat → Int32) ⊕ (Nat → Int64) ⊕ (Nat → UInt32) ⊕ (Nat → UInt64) ⊕ (Nat → Option Nat) := .inr (.inr (.inr (.inr f)))
theorem g_aald (C : Cx ss p l s m args meth c cc nL Ts own D tys A tb) {a n x : Nat} {cA : ClassId} {f : Nat → Option Nat} {i : Int32} (q0 t0 : Nat) (ha : ws[q0]? = some (a, .inl (cA, n, oQ f))) (ht : tys[t0]? = some (cA, .array .int)) (hin : vp_in i n) (hx : f i.toNatClampNeg = some x) (d : decode cc pc = .ok (.aaload, 1)) (q : Nat) (hq : pc + 1 = q) (kk : Gq p l e R s m args below meth c D A nL Q ws cells slots q lv (.ref x :: st)) : Gq p l e R s m args below meth c D A nL Q ws cells slots pc lv (.int i :: .ref a :: st) := by
  subst hq
  have hlt : i.toNatClampNeg < n := Nat.not_le.mp fun q => hin (Or.inr q)
  exact fun H locs ls hP hD hS hl => W.aald (v := .ref x) (ty := .array .int) C.1 C.2.1 (hP q0 _ ha) ((C.2.2.2.2.2.1.2 t0 _ ht).1 n (fun j => va_rf (f j))) rfl (fun q => by cases q) (by show ¬ (i < 0 ∨ (arrV _ _ _).slots.size ≤ _); rw [arrV_size]; exact hin) (by show (arrV _ _ _).slots[_]? = _; rw [arrV_read _ _ hlt, hx]; rfl) rfl rfl d (kk H locs ls hP hD hS hl)
theorem g_anew (C : Cx ss p l s m args meth c cc nL Ts own D tys A tb) {i t0 N : Nat} {cA : ClassId} {n : Int32} (hlink : (Cond.classLink own i "[I").before args s = true) (ht : tys[t0]? = some (cA, .array .int)) (hn : ¬ n < 0) (hN : n.toNatClampNeg = N) (hby : N * 4 ≤ 536870912) {c2 s2 : Nat} (hc2 : cells + 1 = c2) (hs2 : slots + N = s2) (hcells : c2 ≤ R.cells) (hslots : s2 ≤ R.slots) (d : decode cc pc = .ok (.anewarray i, 3)) (q : Nat) (hq : pc + 3 = q)
    (kk : ∀ z : Nat, Gq p l e R s m args below meth c D A nL Q (ws ++ [(z, .inl (cA, N, oQ (fun _ => none)))]) c2 s2 q lv (.ref z :: st)) : Gq p l e R s m args below meth c D A nL Q ws cells slots pc lv (.int n :: st) := by
  subst hq; subst hc2; subst hs2; subst hN
  intro H locs ls hP hD hS hl
  have hE := C.2.2.2.2.2.2.2.2.1.2.2.2.2.2.1
  have r1 : s.vm.findClass ("[" ++ (FieldType.array .int).toString) = some cA := (C.2.2.2.2.2.1.2 t0 _ ht).2
  refine W.anewA (t := .int) C.1 C.2.1 C.2.2.2.1 hlink hE rfl d rfl hn hby hcells hslots fun cB kA comp f1 f2 f3 f4 => ?_
  cases r1.symm.trans f1
  generalize hH1 : H.push ({ cls := cA, slots := Array.replicate n.toNatClampNeg .null, vm := .none } : Cell) = H1
  have z1 : H1.size = H.size + 1 := by rw [← hH1, Array.size_push]
  have e1 : H1[H.size]? = some (arrV cA n.toNatClampNeg (fun _ => .null)) := by rw [← hH1, Array.getElem?_push_size, ← arrV_new]
  have o1 : ∀ q : Nat, q < H.size → H1[q]? = H[q]? := fun q hq => by rw [← hH1, Array.getElem?_push, if_neg (Nat.ne_of_lt hq)]
  have hk : ∀ (k : Nat) (x : Nat × va_E), ws[k]? = some x → H1[x.1]? = H[x.1]? := fun k x hx => o1 x.1 ((hP k x hx).lt)
  refine kk H.size H1 locs ls ((hP.kept hk).app (fun k x hx => ?_)) (hD.push hP rfl (C.2.2.2.2.2.2.1 _ hS.1)) ⟨Nat.le_trans hS.1 (by omega), fun x h1 h2 => (o1 x (Nat.lt_of_lt_of_le h1 hS.1)).trans (hS.2.1 x h1 h2), hS.2.2⟩ hl
  have hz : k < 1 := (List.getElem?_eq_some_iff.mp hx).1
  rw [show k = 0 by omega] at hx
  cases hx
  show H1[H.size]? = some (vp_cell _ _)
  rw [vp_cell_q]
  exact e1
theorem g_aast (C : Cx ss p l s m args meth c cc nL Ts own D tys A tb) {a v n n2 : Nat} {cJ cI : ClassId} {f : Nat → Option Nat} {g : Nat → Int32} {i : Int32} (q0 tJ tI : Nat) (ha : ws[q0]? = some (a, .inl (cJ, n, oQ f))) (htJ : tys[tJ]? = some (cJ, .array .int)) (hv : (v, .inl (cI, n2, .inl g)) ∈ ws) (htI : tys[tI]? = some (cI, .int)) (hin : vp_in i n) (hw : ws.set q0 (a, .inl (cJ, n, oQ (va_up f i.toNatClampNeg (some v)))) = ws') (d : decode cc pc = .ok (.aastore, 1)) (q : Nat) (hq : pc + 1 = q) (kk : Gq p l e R s m args below meth c D A nL Q ws' cells slots q lv st) : Gq p l e R s m args below meth c D A nL Q ws cells slots pc lv (.ref v :: .int i :: .ref a :: st) := by
  subst hq; subst hw
  intro H locs ls hP hD hS hl
  obtain ⟨qk, hqk⟩ := List.getElem?_of_mem hv
  have hlt : i.toNatClampNeg < n := Nat.not_le.mp fun q => hin (Or.inr q)
  have h0 : ¬ i < 0 := fun q => hin (Or.inl q)
  have hcv : H[v]? = some (vp_cell cI (n2, .inl g)) := hP qk _ hqk
  obtain ⟨comp, c1, k1, e1, -, e3, e4, e5⟩ := arrayOverA_spec (C.2.2.2.2.2.2.2.2.1.2.2.2.2.2.1)
  have r1 : s.vm.findClass ("[" ++ (FieldType.array .int).toString) = some cJ := (C.2.2.2.2.2.1.2 tJ _ htJ).2
  cases r1.symm.trans e5
  have r2 : s.vm.findClass (FieldType.array .int).toString = some cI := (C.2.2.2.2.2.1.2 tI _ htI).2
  cases r2.symm.trans e1
  obtain ⟨-, kI, hkI, -⟩ := (C.2.2.2.2.2.1.2 tI _ htI).1 n2 (fun j => .int (g j))
  refine W.aast C.1 C.2.1 (hP q0 _ ha) (fun q h => by cases h) (fun h => by cases h) e3 e4 rfl hkI ⟨h0, by show _ < (arrV _ _ _).slots.size; rw [arrV_size]; exact hlt⟩ hcv (fun q h => by cases h) hkI (va_asg _ _) rfl rfl d fun H1 e z oq => ?_
  refine kk H1 _ ls (hP.set hD ha ?_ oq) (hD.set ha) (hS.put z oq (hD.2 q0 _ ha)) hl
  show H1[a]? = some (vp_cell _ _)
  rw [e]
  rw [vp_cell_q, vp_cell_q, arrV_store]
  congr 2
  funext q
  by_cases hq : q = i.toNatClampNeg
  · subst hq
    simp [updV, va_up, va_rf]
  · simp [updV, va_up, hq]
theorem g_putR (C : Cx ss p l s m args meth c cc nL Ts own D tys A tb) {ref Cn : String} {T : u_T} {N ci i a z : Nat} {fs : List Value} {ty : FieldType} (hin : ∀ w ∈ u_ws Cn T N, w ∈ Ts) (ty0 : Nat → FieldType) (hty : ∀ k, k < N → parseFieldDescriptor (T k).2.2.1 = some (ty0 k)) (hnm : ∀ a, a < N → ∀ b, b < N → a ≠ b → (T a).2.1 ≠ (T b).2.1) (q0 : Nat) (he : ws[q0]? = some (a, .inr (ci, fs))) (hc : vwCl[ci]? = some (Cn, T, N)) (k : Nat) (hk : k < N) (hlink : (Cond.fieldLink own i ref (T k).2.1 (T k).2.2.1).before args s = true) (hsame : (T k).1 = ref) (hfl : (T k).2.2.2 = false) (hti : ty0 k = ty) (hn : narrow ty (.ref z) = .ref z) (hfit : fits ty (.ref z) = true) (hl0 : k < fs.length) (hw : ws.set q0 (a, .inr (ci, fs.set k (.ref z))) = ws') (d : decode cc pc = .ok (.putfield i, 3)) (q : Nat) (hq : pc + 3 = q)
    (kk : Gq p l e R s m args below meth c D A nL Q ws' cells slots q lv st) : Gq p l e R s m args below meth c D A nL Q ws cells slots pc lv (.ref z :: .ref a :: st) := by
  subst hq
  subst hw
  subst hti
  exact fun H locs ls hP hD hS hl => va_put (v := .ref z) (ty := ty0 k) C.1 C.2.1 C.2.2.2.2.1 hin ty0 hty hnm C.2.2.2.1 C.2.2.2.2.2.1 hP hD hS q0 he hc k hk hlink (fun x h => by rw [← hsame]; exact h) hfl (hty k hk) hn hfit hl0 d (fun H locs hP hD hS => kk H locs ls hP hD hS hl)
/-- an array as long as a number says, and no longer than it may be -/
def len (cap : Nat) (v : Int32) : Option Nat := if v < 0 ∨ cap < v.toNatClampNeg then none else some v.toNatClampNeg
theorem len_s {cap n : Nat} {v : Int32} (h : len cap v = some n) : ¬ v < 0 ∧ v.toNatClampNeg = n ∧ n ≤ cap := by
  unfold len at h
  split at h
  · cases h
  · rename_i g
    rw [not_or, Nat.not_lt] at g
    cases h
    exact ⟨g.1, rfl, g.2⟩
def nz (y : Int32) : Option Unit := if y = 0 then none else some ()
theorem nz_s {y : Int32} {x : Unit} (h : nz y = some x) : ¬ y = 0 := by
  unfold nz at h
  split at h
  · cases h
  · assumption
theorem g_newv (C : Cx ss p l s m args meth c cc nL Ts own D tys A tb) {atype : ArrayType} {ty : FieldType} {cA : ClassId} {v : Int32} {n cap : Nat} (harr : (Cond.arrayClass (newarray.typeOf atype)).before args s = true) (hty : newarray.typeOf atype = ty) (hobj : ∀ C, ty ≠ .object C) (t0 : Nat) (ht : tys[t0]? = some (cA, ty)) (ha : ∀ cA : ClassId, vp_cell cA (n, .inl (fun _ => 0)) = arrV cA n (fun _ => defaultValue ty)) (hlen : len cap v = some n) (hby : cap * componentBytes ty ≤ 536870912) {c2 s2 : Nat} (hc2 : cells + 1 = c2) (hs2 : slots + cap = s2) (hcells : c2 ≤ R.cells) (hslots : s2 ≤ R.slots) (d : decode cc pc = .ok (.newarray atype, 2)) (q : Nat) (hq : pc + 2 = q)
    (kk : ∀ z : Nat, Gq p l e R s m args below meth c D A nL Q (ws ++ [(z, .inl (cA, n, .inl (fun _ => 0)))]) c2 s2 q lv (.ref z :: st)) : Gq p l e R s m args below meth c D A nL Q ws cells slots pc lv (.int v :: st) := by
  obtain ⟨h1, h2, h3⟩ := len_s hlen
  subst hs2
  refine g_newa C harr hty hobj t0 ht n ha h1 h2 (Nat.le_trans (Nat.mul_le_mul_right _ h3) hby) hc2 rfl hcells (Nat.le_trans (Nat.add_le_add_left h3 slots) hslots) d q hq (fun z => ?_)
  exact g_wide (Nat.le_refl _) (Nat.add_le_add_left h3 slots) (kk z)
/-- the same cells in another order -/
theorem g_pm (h : List.Perm ws ws') (kk : Gq p l e R s m args below meth c D A nL Q ws' cells slots pc lv st) : Gq p l e R s m args below meth c D A nL Q ws cells slots pc lv st := by
  intro H locs ls hP hD hS hl
  refine kk H locs ls ?_ ?_ hS hl
  · rw [vpm] at hP ⊢
    exact fun q hq => hP q (h.mem_iff.mpr hq)
  · rw [vdm] at hD ⊢
    exact ⟨(h.map _).nodup_iff.mp hD.1, fun q hq => hD.2 q (h.mem_iff.mpr hq)⟩
/-- another word for what a cell holds -/
theorem g_as {wl wr : va_W} {a : Nat} {x0 x1 : va_E} (hws : ws = wl ++ (a, x0) :: wr) (hw' : wl ++ (a, x1) :: wr = ws') (he : ∀ H, va_at D vwCl (a, x0) H → va_at D vwCl (a, x1) H) (kk : Gq p l e R s m args below meth c D A nL Q ws' cells slots pc lv st) : Gq p l e R s m args below meth c D A nL Q ws cells slots pc lv st := by
  subst hws; subst hw'
  intro H locs ls hP hD hS hl
  refine kk H locs ls ?_ ?_ hS hl
  · rw [vpm] at hP ⊢
    intro q hq
    rcases List.mem_append.mp hq with h | h
    · exact hP q (List.mem_append_left _ h)
    · rcases List.mem_cons.mp h with h | h
      · subst h
        exact he H (hP (a, x0) (List.mem_append_right _ List.mem_cons_self))
      · exact hP q (List.mem_append_right _ (List.mem_cons_of_mem _ h))
  · rw [vdm] at hD ⊢
    refine ⟨?_, fun q hq => ?_⟩
    · have := hD.1
      simp only [List.map_append, List.map_cons] at this ⊢
      exact this
    · rcases List.mem_append.mp hq with h | h
      · exact hD.2 q (List.mem_append_left _ h)
      · rcases List.mem_cons.mp h with h | h
        · subst h
          exact hD.2 (a, x0) (List.mem_append_right _ List.mem_cons_self)
        · exact hD.2 q (List.mem_append_right _ (List.mem_cons_of_mem _ h))
theorem cell_i {cA : ClassId} {n : Nat} {f g : Nat → Int32} (h : ∀ k, k < n → f k = g k) : vp_cell cA (n, .inl f) = vp_cell cA (n, .inl g) := by
  rw [vp_cell_i, vp_cell_i]
  unfold arrV
  congr 1
  congr 1
  funext j
  show Value.int (f j.val) = Value.int (g j.val)
  rw [h j.val j.isLt]
end GS
theorem up2_v (b : S2) (k j : Nat) (v : Int32) (k' j' : Nat) : up2 b k j v k' j' = if k' = k ∧ j' = j then v else b k' j' := by
  unfold up2
  by_cases h : k' = k
  · subst h
    rw [Nat.beq_refl]
    simp [upd]
  · have h1 : Nat.beq k' k = false := by
      cases h2 : Nat.beq k' k
      · rfl
      · exact absurd (Nat.eq_of_beq_eq_true h2) h
    rw [h1]
    simp [h]
theorem up2_e {b : S2} {k j k' j' : Nat} {v : Int32} (h : k' = k ∧ j' = j) : up2 b k j v k' j' = v := by rw [up2_v, if_pos h]
theorem up2_n {b : S2} {k j k' j' : Nat} {v : Int32} (h : ¬ (k' = k ∧ j' = j)) : up2 b k j v k' j' = b k' j' := by rw [up2_v, if_neg h]
theorem up2_c {b : S2} {k j k' : Nat} {v : Int32} (h : k' ≠ k) : up2 b k j v k' = b k' := by
  funext j'
  exact up2_n (fun g => h g.1)
abbrev SC : Type := Nat × Nat × (Nat → Int32)
/-! Sim: its numbers 0 0 to 0 2, how many travellers 0 3, guards 0 4; a traveller's row 1 to 6, a guard's 8 to 10; h 0 0, h 0 1 the two outer rows, h 1 g, h 2 t the inner ones -/
def nT (u : S2) : Nat := (u 0 3).toNatClampNeg
def nG (u : S2) : Nat := (u 0 4).toNatClampNeg
def rwT (cyI : ClassId) (h : Nat → Nat → Nat) (u : S2) (t : Nat) : Nat × va_E := (h 2 t, .inl (cyI, 6, .inl (fun j => if j < 6 then u (j + 1) t else 0)))
def rwG (cyI : ClassId) (h : Nat → Nat → Nat) (u : S2) (t : Nat) : Nat × va_E := (h 1 t, .inl (cyI, 3, .inl (fun j => if j < 3 then u (j + 8) t else 0)))
def rQ (n : Nat) (r : Nat → Nat) : (Nat → Int32) ⊕ (Nat → Int64) ⊕ (Nat → UInt32) ⊕ (Nat → UInt64) ⊕ (Nat → Option Nat) := oQ (fun k => if k < n then some (r k) else none)
def wG (cyI : ClassId) (h : Nat → Nat → Nat) (u : S2) : va_W := (List.range (nG u)).map (rwG cyI h u)
def wT (cyI : ClassId) (h : Nat → Nat → Nat) (u : S2) : va_W := (List.range (nT u)).map (rwT cyI h u)
def wS (cyI cyJ : ClassId) (z : Nat) (h : Nat → Nat → Nat) (u : S2) : va_W := (z, .inr (2, [.int (u 0 0), .int (u 0 1), .int (u 0 2), .ref (h 0 0), .ref (h 0 1)])) :: (h 0 0, .inl (cyJ, nG u, rQ (nG u) (h 1))) :: (h 0 1, .inl (cyJ, nT u, rQ (nT u) (h 2))) :: (wG cyI h u ++ wT cyI h u)
theorem map_set {α : Type} {f : Nat → α} {n t : Nat} (ht : t < n) (v : α) : ((List.range n).map f).set t v = (List.range n).map (fun k => if k = t then v else f k) := by
  apply List.ext_getElem
  · simp
  · intro k h1 h2
    simp only [List.getElem_set, List.getElem_map, List.getElem_range]
    by_cases e : t = k
    · simp [e]
    · have : ¬ k = t := fun q => e q.symm
      simp [e, this]
theorem map_cg {α : Type} {f g : Nat → α} {n : Nat} (h : ∀ k, k < n → f k = g k) : (List.range n).map f = (List.range n).map g := List.map_congr_left (fun k hk => h k (List.mem_range.mp hk))
theorem rwT_cg {cyI : ClassId} {h : Nat → Nat → Nat} {u v : S2} {t : Nat} (e : ∀ j, j < 6 → u (j + 1) t = v (j + 1) t) : rwT cyI h u t = rwT cyI h v t := by
  unfold rwT
  have : (fun j => if j < 6 then u (j + 1) t else 0) = (fun j => if j < 6 then v (j + 1) t else 0) := by
    funext j
    by_cases hj : j < 6
    · rw [if_pos hj, if_pos hj, e j hj]
    · rw [if_neg hj, if_neg hj]
  rw [this]
theorem rwG_cg {cyI : ClassId} {h : Nat → Nat → Nat} {u v : S2} {t : Nat} (e : ∀ j, j < 3 → u (j + 8) t = v (j + 8) t) : rwG cyI h u t = rwG cyI h v t := by
  unfold rwG
  have : (fun j => if j < 3 then u (j + 8) t else 0) = (fun j => if j < 3 then v (j + 8) t else 0) := by
    funext j
    by_cases hj : j < 3
    · rw [if_pos hj, if_pos hj, e j hj]
    · rw [if_neg hj, if_neg hj]
  rw [this]
def inT (u : S2) (i : Int32) : Option Unit := if i < 0 ∨ nT u ≤ i.toNatClampNeg then none else some ()
def inG (u : S2) (i : Int32) : Option Unit := if i < 0 ∨ nG u ≤ i.toNatClampNeg then none else some ()
def ldT (u : S2) (t c : Nat) : Option Int32 := if nT u ≤ t then none else some (u (c + 1) t)
def ldG (u : S2) (t c : Nat) : Option Int32 := if nG u ≤ t then none else some (u (c + 8) t)
def stT (u : S2) (t c : Nat) (v : Int32) : Option S2 := if nT u ≤ t then none else some (up2 u (c + 1) t v)
def stG (u : S2) (t c : Nat) (v : Int32) : Option S2 := if nG u ≤ t then none else some (up2 u (c + 8) t v)
theorem inT_s {u : S2} {i : Int32} {x : Unit} (h : inT u i = some x) : vp_in i (nT u) := by
  unfold inT at h
  split at h
  · cases h
  · assumption
theorem ldT_s {u : S2} {t c : Nat} {x : Int32} (h : ldT u t c = some x) : t < nT u ∧ u (c + 1) t = x := by
  unfold ldT at h
  split at h
  · cases h
  · exact ⟨by omega, Option.some.inj h⟩
theorem stT_s {u u' : S2} {t c : Nat} {v : Int32} (h : stT u t c v = some u') : t < nT u ∧ u' = up2 u (c + 1) t v := by
  unfold stT at h
  split at h
  · cases h
  · exact ⟨by omega, (Option.some.inj h).symm⟩
theorem inG_s {u : S2} {i : Int32} {x : Unit} (h : inG u i = some x) : vp_in i (nG u) := by
  unfold inG at h
  split at h
  · cases h
  · assumption
theorem ldG_s {u : S2} {t c : Nat} {x : Int32} (h : ldG u t c = some x) : t < nG u ∧ u (c + 8) t = x := by
  unfold ldG at h
  split at h
  · cases h
  · exact ⟨by omega, Option.some.inj h⟩
theorem stG_s {u u' : S2} {t c : Nat} {v : Int32} (h : stG u t c v = some u') : t < nG u ∧ u' = up2 u (c + 8) t v := by
  unfold stG at h
  split at h
  · cases h
  · exact ⟨by omega, (Option.some.inj h).symm⟩
theorem s_tail {cyI cyJ : ClassId} {z : Nat} {h : Nat → Nat → Nat} {u : S2} (x : Nat) : (wS cyI cyJ z h u)[x + 3]? = (wG cyI h u ++ wT cyI h u)[x]? := rfl
theorem rT_at {cyI cyJ : ClassId} {z : Nat} {h : Nat → Nat → Nat} {u : S2} {wl : va_W} {t : Nat} (ht : t < nT u) : (wl ++ wS cyI cyJ z h u)[wl.length + (nG u + t + 3)]? = some (rwT cyI h u t) := by
  rw [List.getElem?_append_right (by omega), show wl.length + (nG u + t + 3) - wl.length = nG u + t + 3 by omega, s_tail, List.getElem?_append_right (by unfold wG; rw [List.length_map, List.length_range]; omega)]
  unfold wG wT
  rw [List.length_map, List.length_range, show nG u + t - nG u = t by omega, List.getElem?_map, List.getElem?_range ht]
  rfl
theorem rG_at {cyI cyJ : ClassId} {z : Nat} {h : Nat → Nat → Nat} {u : S2} {wl : va_W} {t : Nat} (ht : t < nG u) : (wl ++ wS cyI cyJ z h u)[wl.length + (t + 3)]? = some (rwG cyI h u t) := by
  rw [List.getElem?_append_right (by omega), show wl.length + (t + 3) - wl.length = t + 3 by omega, s_tail, List.getElem?_append_left (by unfold wG; rw [List.length_map, List.length_range]; omega)]
  unfold wG
  rw [List.getElem?_map, List.getElem?_range ht]
  rfl
theorem s_set {cyI cyJ : ClassId} {z : Nat} {h : Nat → Nat → Nat} {u : S2} (x : Nat) (e : Nat × va_E) : (wS cyI cyJ z h u).set (x + 3) e = (z, .inr (2, [.int (u 0 0), .int (u 0 1), .int (u 0 2), .ref (h 0 0), .ref (h 0 1)])) :: (h 0 0, .inl (cyJ, nG u, rQ (nG u) (h 1))) :: (h 0 1, .inl (cyJ, nT u, rQ (nT u) (h 2))) :: (wG cyI h u ++ wT cyI h u).set x e := rfl
theorem s_mk {cyI cyJ : ClassId} {z : Nat} {h : Nat → Nat → Nat} {u u' : S2} {X : va_W} (h0 : ∀ j, j < 5 → u' 0 j = u 0 j) (hX : X = wG cyI h u' ++ wT cyI h u') : (z, (.inr (2, [Value.int (u 0 0), .int (u 0 1), .int (u 0 2), .ref (h 0 0), .ref (h 0 1)]) : va_E)) :: (h 0 0, .inl (cyJ, nG u, rQ (nG u) (h 1))) :: (h 0 1, .inl (cyJ, nT u, rQ (nT u) (h 2))) :: X = wS cyI cyJ z h u' := by
  have a : nT u' = nT u := by unfold nT; rw [h0 3 (by omega)]
  have b : nG u' = nG u := by unfold nG; rw [h0 4 (by omega)]
  unfold wS
  rw [hX, a, b, h0 0 (by omega), h0 1 (by omega), h0 2 (by omega)]
theorem rT_set {cyI cyJ : ClassId} {z : Nat} {h : Nat → Nat → Nat} {u : S2} {wl : va_W} {t c : Nat} {v : Int32} (ht : t < nT u) (hc : c < 6) : (wl ++ wS cyI cyJ z h u).set (wl.length + (nG u + t + 3)) (h 2 t, .inl (cyI, 6, .inl (upd (fun j => if j < 6 then u (j + 1) t else 0) c v))) = wl ++ wS cyI cyJ z h (up2 u (c + 1) t v) := by
  have h0 : ∀ j, j < 5 → up2 u (c + 1) t v 0 j = u 0 j := fun j _ => up2_n (by omega)
  have a : nT (up2 u (c + 1) t v) = nT u := by unfold nT; rw [h0 3 (by omega)]
  have b : nG (up2 u (c + 1) t v) = nG u := by unfold nG; rw [h0 4 (by omega)]
  rw [List.set_append_right _ _ (by omega), show wl.length + (nG u + t + 3) - wl.length = nG u + t + 3 by omega, s_set]
  congr 1
  refine s_mk h0 ?_
  rw [List.set_append_right _ _ (by unfold wG; rw [List.length_map, List.length_range]; omega)]
  unfold wG wT
  rw [List.length_map, List.length_range, show nG u + t - nG u = t by omega, a, b, map_set ht]
  congr 1
  · exact map_cg (fun k _ => rwG_cg (fun j hj => (up2_n (by omega)).symm))
  · refine map_cg (fun k _ => ?_)
    by_cases e : k = t
    · subst e
      rw [if_pos rfl]
      unfold rwT
      have : upd (fun j => if j < 6 then u (j + 1) k else 0) c v = (fun j => if j < 6 then up2 u (c + 1) k v (j + 1) k else 0) := by
        funext j
        by_cases ej : j = c
        · subst ej
          rw [if_pos hc, up2_e ⟨rfl, rfl⟩]
          exact if_pos rfl
        · show (if j = c then v else (if j < 6 then u (j + 1) k else 0)) = _
          rw [if_neg ej]
          by_cases hj : j < 6
          · rw [if_pos hj, if_pos hj, up2_n (by omega)]
          · rw [if_neg hj, if_neg hj]
      rw [this]
    · rw [if_neg e]
      exact rwT_cg (fun j hj => (up2_n (by omega)).symm)
theorem rG_set {cyI cyJ : ClassId} {z : Nat} {h : Nat → Nat → Nat} {u : S2} {wl : va_W} {t c : Nat} {v : Int32} (ht : t < nG u) (hc : c < 3) : (wl ++ wS cyI cyJ z h u).set (wl.length + (t + 3)) (h 1 t, .inl (cyI, 3, .inl (upd (fun j => if j < 3 then u (j + 8) t else 0) c v))) = wl ++ wS cyI cyJ z h (up2 u (c + 8) t v) := by
  have h0 : ∀ j, j < 5 → up2 u (c + 8) t v 0 j = u 0 j := fun j _ => up2_n (by omega)
  have a : nT (up2 u (c + 8) t v) = nT u := by unfold nT; rw [h0 3 (by omega)]
  have b : nG (up2 u (c + 8) t v) = nG u := by unfold nG; rw [h0 4 (by omega)]
  rw [List.set_append_right _ _ (by omega), show wl.length + (t + 3) - wl.length = t + 3 by omega, s_set]
  congr 1
  refine s_mk h0 ?_
  rw [List.set_append_left _ _ (by unfold wG; rw [List.length_map, List.length_range]; omega)]
  unfold wG wT
  rw [a, b, map_set ht]
  congr 1
  · refine map_cg (fun k _ => ?_)
    by_cases e : k = t
    · subst e
      rw [if_pos rfl]
      unfold rwG
      have : upd (fun j => if j < 3 then u (j + 8) k else 0) c v = (fun j => if j < 3 then up2 u (c + 8) k v (j + 8) k else 0) := by
        funext j
        by_cases ej : j = c
        · subst ej
          rw [if_pos hc, up2_e ⟨rfl, rfl⟩]
          exact if_pos rfl
        · show (if j = c then v else (if j < 3 then u (j + 8) k else 0)) = _
          rw [if_neg ej]
          by_cases hj : j < 3
          · rw [if_pos hj, if_pos hj, up2_n (by omega)]
          · rw [if_neg hj, if_neg hj]
      rw [this]
    · rw [if_neg e]
      exact rwG_cg (fun j hj => (up2_n (by omega)).symm)
  · exact map_cg (fun k _ => rwT_cg (fun j hj => (up2_n (by omega)).symm))
/-- a number of the object itself -/
theorem rS_set {cyI cyJ : ClassId} {z : Nat} {h : Nat → Nat → Nat} {u : S2} {wl : va_W} {k : Nat} {v : Int32} (hk : k < 3) : (wl ++ wS cyI cyJ z h u).set wl.length (z, .inr (2, ([.int (u 0 0), .int (u 0 1), .int (u 0 2), .ref (h 0 0), .ref (h 0 1)] : List Value).set k (.int v))) = wl ++ wS cyI cyJ z h (up2 u 0 k v) := by
  have a : nT (up2 u 0 k v) = nT u := by unfold nT; rw [up2_n (by omega)]
  have b : nG (up2 u 0 k v) = nG u := by unfold nG; rw [up2_n (by omega)]
  have hG : wG cyI h (up2 u 0 k v) = wG cyI h u := by
    unfold wG
    rw [b]
    exact map_cg (fun k _ => rwG_cg (fun j hj => up2_n (by omega)))
  have hT : wT cyI h (up2 u 0 k v) = wT cyI h u := by
    unfold wT
    rw [a]
    exact map_cg (fun k _ => rwT_cg (fun j hj => up2_n (by omega)))
  rw [List.set_append_right _ _ (Nat.le_refl _), Nat.sub_self]
  congr 1
  unfold wS
  rw [hG, hT, a, b]
  match k, hk with
  | 0, _ => rfl
  | 1, _ => rfl
  | 2, _ => rfl
theorem rS_put {cyI cyJ : ClassId} {z : Nat} {h : Nat → Nat → Nat} {u u' : S2} {wl : va_W} {k : Nat} {v : Int32} (hk : k < 3) (e : some (up2 u 0 k v) = some u') : (wl ++ wS cyI cyJ z h u).set wl.length (z, .inr (2, ([.int (u 0 0), .int (u 0 1), .int (u 0 2), .ref (h 0 0), .ref (h 0 1)] : List Value).set k (.int v))) = wl ++ wS cyI cyJ z h u' := by
  cases e
  exact rS_set hk
section GT
variable {ss : Ev} {p : Program} {l : Launch} {e : Env} {R : Room} {s : State} {m : MethodId} {args : Array Value} {below : List Frame} {meth : Method} {c : Code} {Q : State → Prop}
variable {D : va_G} {A : Nat → Prop} {tys : List (ClassId × FieldType)} {Ts : List Cond} {own : String} {cc : ByteArray} {nL : Nat} {tb : List ExceptionTableEntry} {ws ws' : va_W} {cells slots pc q : Nat} {lv lv' : List (Nat × Value)} {st : List Value}
theorem g_rldT (C : Cx ss p l s m args meth c cc nL Ts own D tys A tb) {wl : va_W} {cyI cyJ : ClassId} {z : Nat} {h : Nat → Nat → Nat} {u : S2} {t : Nat} {ci x : Int32} (cn t0 : Nat) (ht0 : tys[t0]? = some (cyI, .int)) (hws : ws = wl ++ wS cyI cyJ z h u) (hc : ci.toNatClampNeg = cn ∧ vp_in ci 6) (hld : ldT u t cn = some x) (d : decode cc pc = .ok (.iaload, 1)) (q : Nat) (hq : pc + 1 = q) (kk : Gq p l e R s m args below meth c D A nL Q (wl ++ wS cyI cyJ z h u) cells slots q lv (.int x :: st)) : Gq p l e R s m args below meth c D A nL Q ws cells slots pc lv (.int ci :: .ref (h 2 t) :: st) := by
  subst hws
  obtain ⟨ht, hx⟩ := ldT_s hld
  obtain ⟨h1, h2⟩ := hc
  have hcn : cn < 6 := by rw [← h1]; exact Nat.not_le.mp fun q => h2 (Or.inr q)
  refine g_iald C (f := fun j => if j < 6 then u (j + 1) t else 0) (wl.length + (nG u + t + 3)) t0 (rT_at ht) ht0 ?_ d q hq kk
  unfold ldA
  rw [if_neg h2, h1]
  show some (if cn < 6 then u (cn + 1) t else 0) = some x
  rw [if_pos hcn, hx]
theorem g_rstT (C : Cx ss p l s m args meth c cc nL Ts own D tys A tb) {wl : va_W} {cyI cyJ : ClassId} {z : Nat} {h : Nat → Nat → Nat} {u u' : S2} {t : Nat} {ci v : Int32} (cn t0 : Nat) (ht0 : tys[t0]? = some (cyI, .int)) (hws : ws = wl ++ wS cyI cyJ z h u) (hc : ci.toNatClampNeg = cn ∧ vp_in ci 6) (hst : stT u t cn v = some u') (d : decode cc pc = .ok (.iastore, 1)) (q : Nat) (hq : pc + 1 = q) (kk : Gq p l e R s m args below meth c D A nL Q (wl ++ wS cyI cyJ z h u') cells slots q lv st) : Gq p l e R s m args below meth c D A nL Q ws cells slots pc lv (.int v :: .int ci :: .ref (h 2 t) :: st) := by
  subst hws
  obtain ⟨ht, hx⟩ := stT_s hst
  obtain ⟨h1, h2⟩ := hc
  have hcn : cn < 6 := by rw [← h1]; exact Nat.not_le.mp fun q => h2 (Or.inr q)
  subst hx
  refine g_iast C (f := fun j => if j < 6 then u (j + 1) t else 0) (wl.length + (nG u + t + 3)) t0 (rT_at ht) ht0 h2 ?_ d q hq kk
  rw [h1]
  exact rT_set ht hcn
theorem g_aaT (C : Cx ss p l s m args meth c cc nL Ts own D tys A tb) {wl : va_W} {cyI cyJ : ClassId} {z : Nat} {h : Nat → Nat → Nat} {u : S2} {i : Int32} {x : Unit} (t0 : Nat) (ht0 : tys[t0]? = some (cyJ, .array .int)) (hws : ws = wl ++ wS cyI cyJ z h u) (hin : inT u i = some x) (d : decode cc pc = .ok (.aaload, 1)) (q : Nat) (hq : pc + 1 = q) (kk : Gq p l e R s m args below meth c D A nL Q (wl ++ wS cyI cyJ z h u) cells slots q lv (.ref (h 2 i.toNatClampNeg) :: st)) : Gq p l e R s m args below meth c D A nL Q ws cells slots pc lv (.int i :: .ref (h 0 1) :: st) := by
  subst hws
  have h1 := inT_s hin
  have hlt : i.toNatClampNeg < nT u := Nat.not_le.mp fun q => h1 (Or.inr q)
  refine g_aald C (n := nT u) (f := fun k => if k < nT u then some (h 2 k) else none) (wl.length + 2) t0 ?_ ht0 h1 (if_pos hlt) d q hq kk
  rw [List.getElem?_append_right (by omega), show wl.length + 2 - wl.length = 2 by omega]
  rfl
theorem g_rldG (C : Cx ss p l s m args meth c cc nL Ts own D tys A tb) {wl : va_W} {cyI cyJ : ClassId} {z : Nat} {h : Nat → Nat → Nat} {u : S2} {t : Nat} {ci x : Int32} (cn t0 : Nat) (ht0 : tys[t0]? = some (cyI, .int)) (hws : ws = wl ++ wS cyI cyJ z h u) (hc : ci.toNatClampNeg = cn ∧ vp_in ci 3) (hld : ldG u t cn = some x) (d : decode cc pc = .ok (.iaload, 1)) (q : Nat) (hq : pc + 1 = q) (kk : Gq p l e R s m args below meth c D A nL Q (wl ++ wS cyI cyJ z h u) cells slots q lv (.int x :: st)) : Gq p l e R s m args below meth c D A nL Q ws cells slots pc lv (.int ci :: .ref (h 1 t) :: st) := by
  subst hws
  obtain ⟨ht, hx⟩ := ldG_s hld
  obtain ⟨h1, h2⟩ := hc
  have hcn : cn < 3 := by rw [← h1]; exact Nat.not_le.mp fun q => h2 (Or.inr q)
  refine g_iald C (f := fun j => if j < 3 then u (j + 8) t else 0) (wl.length + (t + 3)) t0 (rG_at ht) ht0 ?_ d q hq kk
  unfold ldA
  rw [if_neg h2, h1]
  show some (if cn < 3 then u (cn + 8) t else 0) = some x
  rw [if_pos hcn, hx]
theorem g_rstG (C : Cx ss p l s m args meth c cc nL Ts own D tys A tb) {wl : va_W} {cyI cyJ : ClassId} {z : Nat} {h : Nat → Nat → Nat} {u u' : S2} {t : Nat} {ci v : Int32} (cn t0 : Nat) (ht0 : tys[t0]? = some (cyI, .int)) (hws : ws = wl ++ wS cyI cyJ z h u) (hc : ci.toNatClampNeg = cn ∧ vp_in ci 3) (hst : stG u t cn v = some u') (d : decode cc pc = .ok (.iastore, 1)) (q : Nat) (hq : pc + 1 = q) (kk : Gq p l e R s m args below meth c D A nL Q (wl ++ wS cyI cyJ z h u') cells slots q lv st) : Gq p l e R s m args below meth c D A nL Q ws cells slots pc lv (.int v :: .int ci :: .ref (h 1 t) :: st) := by
  subst hws
  obtain ⟨ht, hx⟩ := stG_s hst
  obtain ⟨h1, h2⟩ := hc
  have hcn : cn < 3 := by rw [← h1]; exact Nat.not_le.mp fun q => h2 (Or.inr q)
  subst hx
  refine g_iast C (f := fun j => if j < 3 then u (j + 8) t else 0) (wl.length + (t + 3)) t0 (rG_at ht) ht0 h2 ?_ d q hq kk
  rw [h1]
  exact rG_set ht hcn
theorem g_aaG (C : Cx ss p l s m args meth c cc nL Ts own D tys A tb) {wl : va_W} {cyI cyJ : ClassId} {z : Nat} {h : Nat → Nat → Nat} {u : S2} {i : Int32} {x : Unit} (t0 : Nat) (ht0 : tys[t0]? = some (cyJ, .array .int)) (hws : ws = wl ++ wS cyI cyJ z h u) (hin : inG u i = some x) (d : decode cc pc = .ok (.aaload, 1)) (q : Nat) (hq : pc + 1 = q) (kk : Gq p l e R s m args below meth c D A nL Q (wl ++ wS cyI cyJ z h u) cells slots q lv (.ref (h 1 i.toNatClampNeg) :: st)) : Gq p l e R s m args below meth c D A nL Q ws cells slots pc lv (.int i :: .ref (h 0 0) :: st) := by
  subst hws
  have h1 := inG_s hin
  have hlt : i.toNatClampNeg < nG u := Nat.not_le.mp fun q => h1 (Or.inr q)
  refine g_aald C (n := nG u) (f := fun k => if k < nG u then some (h 1 k) else none) (wl.length + 1) t0 ?_ ht0 h1 (if_pos hlt) d q hq kk
  rw [List.getElem?_append_right (by omega), show wl.length + 1 - wl.length = 1 by omega]
  rfl
end GT
