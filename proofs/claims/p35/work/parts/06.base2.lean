/-! BASE 2: the shapes of the objects, reads and writes, the functions' joints -/
abbrev S2 : Type := Nat → Nat → Int32
abbrev ty3 (cyI cyZ cyJ : ClassId) : List (ClassId × FieldType) := [(cyI, .int), (cyZ, .boolean), (cyJ, .array .int)]
def up2 (b : S2) (k j : Nat) (v : Int32) : S2 := fun k' => bif Nat.beq k' k then upd (b k) j v else b k'
def wB (cyI : ClassId) (h : Nat → Nat) (b : S2) : va_W := [(h 0, .inr (0, [.int (b 0 0), .int (b 0 1), .int (b 0 2), .int (b 0 3), .ref (h 1), .ref (h 2), .ref (h 3), .ref (h 4), .ref (h 5), .ref (h 6), .ref (h 7), .int (b 0 4), .ref (h 8), .ref (h 9), .ref (h 10)])), (h 1, .inl (cyI, 24, .inl (b 1))), (h 2, .inl (cyI, 24, .inl (b 2))), (h 3, .inl (cyI, 24, .inl (b 3))), (h 4, .inl (cyI, 24, .inl (b 4))), (h 5, .inl (cyI, 24, .inl (b 5))), (h 6, .inl (cyI, 24, .inl (b 6))), (h 7, .inl (cyI, 24, .inl (b 7))), (h 8, .inl (cyI, 8, .inl (b 8))), (h 9, .inl (cyI, 8, .inl (b 9))), (h 10, .inl (cyI, 8, .inl (b 10)))]
def wC (g : Nat) (h1 h2 : Nat → Nat) : va_W := [(g, .inr (1, [.ref (h1 0), .ref (h2 0)]))]
def wA (cyI : ClassId) (z n : Nat) (f : Nat → Int32) : va_W := [(z, .inl (cyI, n, .inl f))]
def stA (b : S2) (k n : Nat) (i v : Int32) : Option S2 := if i < 0 ∨ n ≤ i.toNatClampNeg then none else some (up2 b k i.toNatClampNeg v)
def stF (f : Nat → Int32) (n : Nat) (i v : Int32) : Option (Nat → Int32) := if i < 0 ∨ n ≤ i.toNatClampNeg then none else some (upd f i.toNatClampNeg v)
def bl (v : Int32) : Option Int32 := if v = 0 ∨ v = 1 then some v else none
def nn (v : UInt64) : Option UInt64 := if v &&& 0x7fffffffffffffff ≤ 0x7ff0000000000000 then some v else none
theorem stA_in {b u : S2} {k n : Nat} {i v : Int32} (h : stA b k n i v = some u) : vp_in i n := by
  unfold stA at h; split at h
  · cases h
  · assumption
theorem stA_eq {b u : S2} {k n : Nat} {i v : Int32} (h : stA b k n i v = some u) : u = up2 b k i.toNatClampNeg v := by
  unfold stA at h; split at h
  · cases h
  · exact (Option.some.inj h).symm
theorem stF_in {f u : Nat → Int32} {n : Nat} {i v : Int32} (h : stF f n i v = some u) : vp_in i n := by
  unfold stF at h; split at h
  · cases h
  · assumption
theorem stF_eq {f u : Nat → Int32} {n : Nat} {i v : Int32} (h : stF f n i v = some u) : u = upd f i.toNatClampNeg v := by
  unfold stF at h; split at h
  · cases h
  · exact (Option.some.inj h).symm
theorem bl_s {v x : Int32} (h : bl v = some x) : v = 0 ∨ v = 1 := by
  unfold bl at h; split at h
  · assumption
  · cases h
theorem bl_n {v x : Int32} (h : bl v = some x) : vp_nar .boolean v = v := by
  rcases bl_s h with rfl | rfl <;> rfl
theorem nn_s {v x : UInt64} (h : nn v = some x) : vf_n64 v := by
  unfold nn at h; split at h
  · assumption
  · cases h
theorem ifp {c : Prop} [Decidable c] {α : Type} {a b r : α} (h : c) (hf : (if c then a else b) = r) : a = r := by rwa [if_pos h] at hf
theorem ifn {c : Prop} [Decidable c] {α : Type} {a b r : α} (h : ¬ c) (hf : (if c then a else b) = r) : b = r := by rwa [if_neg h] at hf
theorem g_lve {p : Program} {l : Launch} {e : Env} {R : Room} {s : State} {m : MethodId} {args : Array Value} {below : List Frame} {meth : Method} {c : Code} {Q : State → Prop} {D : va_G} {A : Nat → Prop} {nL : Nat} {ws : va_W} {cells slots pc : Nat} {lv lv' : List (Nat × Value)} {st : List Value} (h : lv = lv') (kk : Gq p l e R s m args below meth c D A nL Q ws cells slots pc lv' st) : Gq p l e R s m args below meth c D A nL Q ws cells slots pc lv st := h ▸ kk
theorem g_setQ {p : Program} {l : Launch} {e : Env} {R : Room} {s : State} {m : MethodId} {args : Array Value} {below : List Frame} {meth : Method} {c : Code} {Q : State → Prop} {D : va_G} {A : Nat → Prop} {nL : Nat} {ws : va_W} {cells slots pc : Nat} {lv : List (Nat × Value)} {st : List Value} (k : ∀ Q' : State → Prop, Q' = Q → Gq p l e R s m args below meth c D A nL Q' ws cells slots pc lv st) : Gq p l e R s m args below meth c D A nL Q ws cells slots pc lv st := k Q rfl
theorem g_Q {p : Program} {l : Launch} {e : Env} {R : Room} {s : State} {m : MethodId} {args : Array Value} {below : List Frame} {meth : Method} {c : Code} {Q Q' : State → Prop} {D : va_G} {A : Nat → Prop} {nL : Nat} {ws : va_W} {cells slots pc : Nat} {lv : List (Nat × Value)} {st : List Value} (h : Q' = Q) (k : Gq p l e R s m args below meth c D A nL Q ws cells slots pc lv st) : Gq p l e R s m args below meth c D A nL Q' ws cells slots pc lv st := h ▸ k
theorem g_xQ {p : Program} {l : Launch} {e : Env} {R : Room} {s : State} {m : MethodId} {args : Array Value} {below : List Frame} {meth : Method} {c : Code} {Q Q' : State → Prop} {D : va_G} {A : Nat → Prop} {nL : Nat} {ws : va_W} {cells slots pc : Nat} {lv : List (Nat × Value)} {n : Nat} (h : Q' = Q) (k : Gx p l e R s m args below meth c D A nL Q ws cells slots pc lv n) : Gx p l e R s m args below meth c D A nL Q' ws cells slots pc lv n := h ▸ k
def bd0 {γ : Type} (o : Option Unit) (K : (Option γ)) : Option γ := match o with
  | none => none
  | some _ => K
theorem bd0_s {γ : Type} {o : Option Unit} {K : (Option γ)} {r : γ} (h : bd0 o K = some r) : o = some () ∧ K = some r := by
  match o, h with
  | some (), h => exact ⟨rfl, h⟩
def bx0 {γ : Type} (o : Option (Nat ⊕ Unit)) (K : (Option (Nat ⊕ γ))) : Option (Nat ⊕ γ) := match o with
  | none => none
  | some (.inl n) => some (.inl n)
  | some (.inr _) => K
theorem bx0_s {γ : Type} {o : Option (Nat ⊕ Unit)} {K : (Option (Nat ⊕ γ))} {r : Nat ⊕ γ} (h : bx0 o K = some r) : (∃ n, o = some (.inl n) ∧ r = .inl n) ∨ (o = some (.inr ()) ∧ K = some r) := by
  match o, h with
  | some (.inl n), h => exact Or.inl ⟨n, rfl, (Option.some.inj h).symm⟩
  | some (.inr ()), h => exact Or.inr ⟨rfl, h⟩
def bc0 {γ : Type} (o : Option (Nat ⊕ Unit)) (X : Nat → Option γ) (K : (Option γ)) : Option γ := match o with
  | none => none
  | some (.inl n) => X n
  | some (.inr _) => K
theorem bc0_s {γ : Type} {o : Option (Nat ⊕ Unit)} {X : Nat → Option γ} {K : (Option γ)} {r : γ} (h : bc0 o X K = some r) : (∃ n, o = some (.inl n) ∧ X n = some r) ∨ (o = some (.inr ()) ∧ K = some r) := by
  match o, h with
  | some (.inl n), h => exact Or.inl ⟨n, rfl, h⟩
  | some (.inr ()), h => exact Or.inr ⟨rfl, h⟩
def bd1 {α0 : Type} {γ : Type} (o : Option α0) (K : α0 → Option γ) : Option γ := match o with
  | none => none
  | some x0 => K x0
theorem bd1_s {α0 : Type} {γ : Type} {o : Option α0} {K : (α0 → Option γ)} {r : γ} (h : bd1 o K = some r) : ∃ (x0 : α0), o = some x0 ∧ K x0 = some r := by
  match o, h with
  | some x0, h => exact ⟨x0, rfl, h⟩
def bx1 {α0 : Type} {γ : Type} (o : Option (Nat ⊕ α0)) (K : (α0 → Option (Nat ⊕ γ))) : Option (Nat ⊕ γ) := match o with
  | none => none
  | some (.inl n) => some (.inl n)
  | some (.inr x0) => K x0
theorem bx1_s {α0 : Type} {γ : Type} {o : Option (Nat ⊕ α0)} {K : (α0 → Option (Nat ⊕ γ))} {r : Nat ⊕ γ} (h : bx1 o K = some r) : (∃ n, o = some (.inl n) ∧ r = .inl n) ∨ (∃ (x0 : α0), o = some (.inr x0) ∧ K x0 = some r) := by
  match o, h with
  | some (.inl n), h => exact Or.inl ⟨n, rfl, (Option.some.inj h).symm⟩
  | some (.inr x0), h => exact Or.inr ⟨x0, rfl, h⟩
def bc1 {α0 : Type} {γ : Type} (o : Option (Nat ⊕ α0)) (X : Nat → Option γ) (K : (α0 → Option γ)) : Option γ := match o with
  | none => none
  | some (.inl n) => X n
  | some (.inr x0) => K x0
theorem bc1_s {α0 : Type} {γ : Type} {o : Option (Nat ⊕ α0)} {X : Nat → Option γ} {K : (α0 → Option γ)} {r : γ} (h : bc1 o X K = some r) : (∃ n, o = some (.inl n) ∧ X n = some r) ∨ (∃ (x0 : α0), o = some (.inr x0) ∧ K x0 = some r) := by
  match o, h with
  | some (.inl n), h => exact Or.inl ⟨n, rfl, h⟩
  | some (.inr x0), h => exact Or.inr ⟨x0, rfl, h⟩
def bd2 {α0 : Type} {α1 : Type} {γ : Type} (o : Option (α0 × α1)) (K : (α0 → α1 → Option γ)) : Option γ := match o with
  | none => none
  | some (x0, x1) => K x0 x1
theorem bd2_s {α0 : Type} {α1 : Type} {γ : Type} {o : Option (α0 × α1)} {K : (α0 → α1 → Option γ)} {r : γ} (h : bd2 o K = some r) : ∃ (x0 : α0) (x1 : α1), o = some (x0, x1) ∧ K x0 x1 = some r := by
  match o, h with
  | some (x0, x1), h => exact ⟨x0, x1, rfl, h⟩
def bx2 {α0 : Type} {α1 : Type} {γ : Type} (o : Option (Nat ⊕ (α0 × α1))) (K : (α0 → α1 → Option (Nat ⊕ γ))) : Option (Nat ⊕ γ) := match o with
  | none => none
  | some (.inl n) => some (.inl n)
  | some (.inr (x0, x1)) => K x0 x1
theorem bx2_s {α0 : Type} {α1 : Type} {γ : Type} {o : Option (Nat ⊕ (α0 × α1))} {K : (α0 → α1 → Option (Nat ⊕ γ))} {r : Nat ⊕ γ} (h : bx2 o K = some r) : (∃ n, o = some (.inl n) ∧ r = .inl n) ∨ (∃ (x0 : α0) (x1 : α1), o = some (.inr (x0, x1)) ∧ K x0 x1 = some r) := by
  match o, h with
  | some (.inl n), h => exact Or.inl ⟨n, rfl, (Option.some.inj h).symm⟩
  | some (.inr (x0, x1)), h => exact Or.inr ⟨x0, x1, rfl, h⟩
def bc2 {α0 : Type} {α1 : Type} {γ : Type} (o : Option (Nat ⊕ (α0 × α1))) (X : Nat → Option γ) (K : (α0 → α1 → Option γ)) : Option γ := match o with
  | none => none
  | some (.inl n) => X n
  | some (.inr (x0, x1)) => K x0 x1
theorem bc2_s {α0 : Type} {α1 : Type} {γ : Type} {o : Option (Nat ⊕ (α0 × α1))} {X : Nat → Option γ} {K : (α0 → α1 → Option γ)} {r : γ} (h : bc2 o X K = some r) : (∃ n, o = some (.inl n) ∧ X n = some r) ∨ (∃ (x0 : α0) (x1 : α1), o = some (.inr (x0, x1)) ∧ K x0 x1 = some r) := by
  match o, h with
  | some (.inl n), h => exact Or.inl ⟨n, rfl, h⟩
  | some (.inr (x0, x1)), h => exact Or.inr ⟨x0, x1, rfl, h⟩
def bd3 {α0 : Type} {α1 : Type} {α2 : Type} {γ : Type} (o : Option (α0 × α1 × α2)) (K : (α0 → α1 → α2 → Option γ)) : Option γ := match o with
  | none => none
  | some (x0, x1, x2) => K x0 x1 x2
theorem bd3_s {α0 : Type} {α1 : Type} {α2 : Type} {γ : Type} {o : Option (α0 × α1 × α2)} {K : (α0 → α1 → α2 → Option γ)} {r : γ} (h : bd3 o K = some r) : ∃ (x0 : α0) (x1 : α1) (x2 : α2), o = some (x0, x1, x2) ∧ K x0 x1 x2 = some r := by
  match o, h with
  | some (x0, x1, x2), h => exact ⟨x0, x1, x2, rfl, h⟩
def bx3 {α0 : Type} {α1 : Type} {α2 : Type} {γ : Type} (o : Option (Nat ⊕ (α0 × α1 × α2))) (K : (α0 → α1 → α2 → Option (Nat ⊕ γ))) : Option (Nat ⊕ γ) := match o with
  | none => none
  | some (.inl n) => some (.inl n)
  | some (.inr (x0, x1, x2)) => K x0 x1 x2
theorem bx3_s {α0 : Type} {α1 : Type} {α2 : Type} {γ : Type} {o : Option (Nat ⊕ (α0 × α1 × α2))} {K : (α0 → α1 → α2 → Option (Nat ⊕ γ))} {r : Nat ⊕ γ} (h : bx3 o K = some r) : (∃ n, o = some (.inl n) ∧ r = .inl n) ∨ (∃ (x0 : α0) (x1 : α1) (x2 : α2), o = some (.inr (x0, x1, x2)) ∧ K x0 x1 x2 = some r) := by
  match o, h with
  | some (.inl n), h => exact Or.inl ⟨n, rfl, (Option.some.inj h).symm⟩
  | some (.inr (x0, x1, x2)), h => exact Or.inr ⟨x0, x1, x2, rfl, h⟩
def bc3 {α0 : Type} {α1 : Type} {α2 : Type} {γ : Type} (o : Option (Nat ⊕ (α0 × α1 × α2))) (X : Nat → Option γ) (K : (α0 → α1 → α2 → Option γ)) : Option γ := match o with
  | none => none
  | some (.inl n) => X n
  | some (.inr (x0, x1, x2)) => K x0 x1 x2
theorem bc3_s {α0 : Type} {α1 : Type} {α2 : Type} {γ : Type} {o : Option (Nat ⊕ (α0 × α1 × α2))} {X : Nat → Option γ} {K : (α0 → α1 → α2 → Option γ)} {r : γ} (h : bc3 o X K = some r) : (∃ n, o = some (.inl n) ∧ X n = some r) ∨ (∃ (x0 : α0) (x1 : α1) (x2 : α2), o = some (.inr (x0, x1, x2)) ∧ K x0 x1 x2 = some r) := by
  match o, h with
  | some (.inl n), h => exact Or.inl ⟨n, rfl, h⟩
  | some (.inr (x0, x1, x2)), h => exact Or.inr ⟨x0, x1, x2, rfl, h⟩
def bd4 {α0 : Type} {α1 : Type} {α2 : Type} {α3 : Type} {γ : Type} (o : Option (α0 × α1 × α2 × α3)) (K : (α0 → α1 → α2 → α3 → Option γ)) : Option γ := match o with
  | none => none
  | some (x0, x1, x2, x3) => K x0 x1 x2 x3
theorem bd4_s {α0 : Type} {α1 : Type} {α2 : Type} {α3 : Type} {γ : Type} {o : Option (α0 × α1 × α2 × α3)} {K : (α0 → α1 → α2 → α3 → Option γ)} {r : γ} (h : bd4 o K = some r) : ∃ (x0 : α0) (x1 : α1) (x2 : α2) (x3 : α3), o = some (x0, x1, x2, x3) ∧ K x0 x1 x2 x3 = some r := by
  match o, h with
  | some (x0, x1, x2, x3), h => exact ⟨x0, x1, x2, x3, rfl, h⟩
def bx4 {α0 : Type} {α1 : Type} {α2 : Type} {α3 : Type} {γ : Type} (o : Option (Nat ⊕ (α0 × α1 × α2 × α3))) (K : (α0 → α1 → α2 → α3 → Option (Nat ⊕ γ))) : Option (Nat ⊕ γ) := match o with
  | none => none
  | some (.inl n) => some (.inl n)
  | some (.inr (x0, x1, x2, x3)) => K x0 x1 x2 x3
theorem bx4_s {α0 : Type} {α1 : Type} {α2 : Type} {α3 : Type} {γ : Type} {o : Option (Nat ⊕ (α0 × α1 × α2 × α3))} {K : (α0 → α1 → α2 → α3 → Option (Nat ⊕ γ))} {r : Nat ⊕ γ} (h : bx4 o K = some r) : (∃ n, o = some (.inl n) ∧ r = .inl n) ∨ (∃ (x0 : α0) (x1 : α1) (x2 : α2) (x3 : α3), o = some (.inr (x0, x1, x2, x3)) ∧ K x0 x1 x2 x3 = some r) := by
  match o, h with
  | some (.inl n), h => exact Or.inl ⟨n, rfl, (Option.some.inj h).symm⟩
  | some (.inr (x0, x1, x2, x3)), h => exact Or.inr ⟨x0, x1, x2, x3, rfl, h⟩
def bc4 {α0 : Type} {α1 : Type} {α2 : Type} {α3 : Type} {γ : Type} (o : Option (Nat ⊕ (α0 × α1 × α2 × α3))) (X : Nat → Option γ) (K : (α0 → α1 → α2 → α3 → Option γ)) : Option γ := match o with
  | none => none
  | some (.inl n) => X n
  | some (.inr (x0, x1, x2, x3)) => K x0 x1 x2 x3
theorem bc4_s {α0 : Type} {α1 : Type} {α2 : Type} {α3 : Type} {γ : Type} {o : Option (Nat ⊕ (α0 × α1 × α2 × α3))} {X : Nat → Option γ} {K : (α0 → α1 → α2 → α3 → Option γ)} {r : γ} (h : bc4 o X K = some r) : (∃ n, o = some (.inl n) ∧ X n = some r) ∨ (∃ (x0 : α0) (x1 : α1) (x2 : α2) (x3 : α3), o = some (.inr (x0, x1, x2, x3)) ∧ K x0 x1 x2 x3 = some r) := by
  match o, h with
  | some (.inl n), h => exact Or.inl ⟨n, rfl, h⟩
  | some (.inr (x0, x1, x2, x3)), h => exact Or.inr ⟨x0, x1, x2, x3, rfl, h⟩
def bz0 {γ : Type} (o : Option (Nat ⊕ Unit)) (K : (Option γ)) : Option γ := match o with
  | none => none
  | some (.inl n) => none
  | some (.inr _) => K
theorem bz0_s {γ : Type} {o : Option (Nat ⊕ Unit)} {K : (Option γ)} {r : γ} (h : bz0 o K = some r) : o = some (.inr ()) ∧ K = some r := by
  match o, h with
  | some (.inr ()), h => exact ⟨rfl, h⟩
def bz1 {α0 : Type} {γ : Type} (o : Option (Nat ⊕ α0)) (K : (α0 → Option γ)) : Option γ := match o with
  | none => none
  | some (.inl n) => none
  | some (.inr x0) => K x0
theorem bz1_s {α0 : Type} {γ : Type} {o : Option (Nat ⊕ α0)} {K : (α0 → Option γ)} {r : γ} (h : bz1 o K = some r) : ∃ (x0 : α0), o = some (.inr x0) ∧ K x0 = some r := by
  match o, h with
  | some (.inr x0), h => exact ⟨x0, rfl, h⟩
def bz2 {α0 : Type} {α1 : Type} {γ : Type} (o : Option (Nat ⊕ (α0 × α1))) (K : (α0 → α1 → Option γ)) : Option γ := match o with
  | none => none
  | some (.inl n) => none
  | some (.inr (x0, x1)) => K x0 x1
theorem bz2_s {α0 : Type} {α1 : Type} {γ : Type} {o : Option (Nat ⊕ (α0 × α1))} {K : (α0 → α1 → Option γ)} {r : γ} (h : bz2 o K = some r) : ∃ (x0 : α0) (x1 : α1), o = some (.inr (x0, x1)) ∧ K x0 x1 = some r := by
  match o, h with
  | some (.inr (x0, x1)), h => exact ⟨x0, x1, rfl, h⟩
def bz3 {α0 : Type} {α1 : Type} {α2 : Type} {γ : Type} (o : Option (Nat ⊕ (α0 × α1 × α2))) (K : (α0 → α1 → α2 → Option γ)) : Option γ := match o with
  | none => none
  | some (.inl n) => none
  | some (.inr (x0, x1, x2)) => K x0 x1 x2
theorem bz3_s {α0 : Type} {α1 : Type} {α2 : Type} {γ : Type} {o : Option (Nat ⊕ (α0 × α1 × α2))} {K : (α0 → α1 → α2 → Option γ)} {r : γ} (h : bz3 o K = some r) : ∃ (x0 : α0) (x1 : α1) (x2 : α2), o = some (.inr (x0, x1, x2)) ∧ K x0 x1 x2 = some r := by
  match o, h with
  | some (.inr (x0, x1, x2)), h => exact ⟨x0, x1, x2, rfl, h⟩
def bz4 {α0 : Type} {α1 : Type} {α2 : Type} {α3 : Type} {γ : Type} (o : Option (Nat ⊕ (α0 × α1 × α2 × α3))) (K : (α0 → α1 → α2 → α3 → Option γ)) : Option γ := match o with
  | none => none
  | some (.inl n) => none
  | some (.inr (x0, x1, x2, x3)) => K x0 x1 x2 x3
theorem bz4_s {α0 : Type} {α1 : Type} {α2 : Type} {α3 : Type} {γ : Type} {o : Option (Nat ⊕ (α0 × α1 × α2 × α3))} {K : (α0 → α1 → α2 → α3 → Option γ)} {r : γ} (h : bz4 o K = some r) : ∃ (x0 : α0) (x1 : α1) (x2 : α2) (x3 : α3), o = some (.inr (x0, x1, x2, x3)) ∧ K x0 x1 x2 x3 = some r := by
  match o, h with
  | some (.inr (x0, x1, x2, x3)), h => exact ⟨x0, x1, x2, x3, rfl, h⟩
/-! where roads meet -/
def jo0 {γ : Type} (K0 : Option γ) (F : (Option γ) → Option γ) : Option γ := F K0
theorem jo0_s {γ : Type} {K0 : Option γ} {F : (Option γ) → Option γ} {r : γ} {P : Prop} {Q : Prop} (h : jo0 K0 F = some r) (h1 : K0 = some r → P) (h2 : ∀ K : Option γ, (K = some r → P) → F K = some r → Q) : Q := h2 K0 h1 h
def jo1 {α0 : Type} {γ : Type} (K0 : α0 → Option γ) (F : (α0 → Option γ) → Option γ) : Option γ := F K0
theorem jo1_s {α0 : Type} {γ : Type} {K0 : α0 → Option γ} {F : (α0 → Option γ) → Option γ} {r : γ} {P : α0 → Prop} {Q : Prop} (h : jo1 K0 F = some r) (h1 : ∀ (x0 : α0), K0 x0 = some r → P x0) (h2 : ∀ K : α0 → Option γ, (∀ (x0 : α0), K x0 = some r → P x0) → F K = some r → Q) : Q := h2 K0 h1 h
def jo2 {α0 : Type} {α1 : Type} {γ : Type} (K0 : α0 → α1 → Option γ) (F : (α0 → α1 → Option γ) → Option γ) : Option γ := F K0
theorem jo2_s {α0 : Type} {α1 : Type} {γ : Type} {K0 : α0 → α1 → Option γ} {F : (α0 → α1 → Option γ) → Option γ} {r : γ} {P : α0 → α1 → Prop} {Q : Prop} (h : jo2 K0 F = some r) (h1 : ∀ (x0 : α0) (x1 : α1), K0 x0 x1 = some r → P x0 x1) (h2 : ∀ K : α0 → α1 → Option γ, (∀ (x0 : α0) (x1 : α1), K x0 x1 = some r → P x0 x1) → F K = some r → Q) : Q := h2 K0 h1 h
def jo3 {α0 : Type} {α1 : Type} {α2 : Type} {γ : Type} (K0 : α0 → α1 → α2 → Option γ) (F : (α0 → α1 → α2 → Option γ) → Option γ) : Option γ := F K0
theorem jo3_s {α0 : Type} {α1 : Type} {α2 : Type} {γ : Type} {K0 : α0 → α1 → α2 → Option γ} {F : (α0 → α1 → α2 → Option γ) → Option γ} {r : γ} {P : α0 → α1 → α2 → Prop} {Q : Prop} (h : jo3 K0 F = some r) (h1 : ∀ (x0 : α0) (x1 : α1) (x2 : α2), K0 x0 x1 x2 = some r → P x0 x1 x2) (h2 : ∀ K : α0 → α1 → α2 → Option γ, (∀ (x0 : α0) (x1 : α1) (x2 : α2), K x0 x1 x2 = some r → P x0 x1 x2) → F K = some r → Q) : Q := h2 K0 h1 h
def jo4 {α0 : Type} {α1 : Type} {α2 : Type} {α3 : Type} {γ : Type} (K0 : α0 → α1 → α2 → α3 → Option γ) (F : (α0 → α1 → α2 → α3 → Option γ) → Option γ) : Option γ := F K0
theorem jo4_s {α0 : Type} {α1 : Type} {α2 : Type} {α3 : Type} {γ : Type} {K0 : α0 → α1 → α2 → α3 → Option γ} {F : (α0 → α1 → α2 → α3 → Option γ) → Option γ} {r : γ} {P : α0 → α1 → α2 → α3 → Prop} {Q : Prop} (h : jo4 K0 F = some r) (h1 : ∀ (x0 : α0) (x1 : α1) (x2 : α2) (x3 : α3), K0 x0 x1 x2 x3 = some r → P x0 x1 x2 x3) (h2 : ∀ K : α0 → α1 → α2 → α3 → Option γ, (∀ (x0 : α0) (x1 : α1) (x2 : α2) (x3 : α3), K x0 x1 x2 x3 = some r → P x0 x1 x2 x3) → F K = some r → Q) : Q := h2 K0 h1 h
def jo5 {α0 : Type} {α1 : Type} {α2 : Type} {α3 : Type} {α4 : Type} {γ : Type} (K0 : α0 → α1 → α2 → α3 → α4 → Option γ) (F : (α0 → α1 → α2 → α3 → α4 → Option γ) → Option γ) : Option γ := F K0
theorem jo5_s {α0 : Type} {α1 : Type} {α2 : Type} {α3 : Type} {α4 : Type} {γ : Type} {K0 : α0 → α1 → α2 → α3 → α4 → Option γ} {F : (α0 → α1 → α2 → α3 → α4 → Option γ) → Option γ} {r : γ} {P : α0 → α1 → α2 → α3 → α4 → Prop} {Q : Prop} (h : jo5 K0 F = some r) (h1 : ∀ (x0 : α0) (x1 : α1) (x2 : α2) (x3 : α3) (x4 : α4), K0 x0 x1 x2 x3 x4 = some r → P x0 x1 x2 x3 x4) (h2 : ∀ K : α0 → α1 → α2 → α3 → α4 → Option γ, (∀ (x0 : α0) (x1 : α1) (x2 : α2) (x3 : α3) (x4 : α4), K x0 x1 x2 x3 x4 = some r → P x0 x1 x2 x3 x4) → F K = some r → Q) : Q := h2 K0 h1 h
def jo6 {α0 : Type} {α1 : Type} {α2 : Type} {α3 : Type} {α4 : Type} {α5 : Type} {γ : Type} (K0 : α0 → α1 → α2 → α3 → α4 → α5 → Option γ) (F : (α0 → α1 → α2 → α3 → α4 → α5 → Option γ) → Option γ) : Option γ := F K0
theorem jo6_s {α0 : Type} {α1 : Type} {α2 : Type} {α3 : Type} {α4 : Type} {α5 : Type} {γ : Type} {K0 : α0 → α1 → α2 → α3 → α4 → α5 → Option γ} {F : (α0 → α1 → α2 → α3 → α4 → α5 → Option γ) → Option γ} {r : γ} {P : α0 → α1 → α2 → α3 → α4 → α5 → Prop} {Q : Prop} (h : jo6 K0 F = some r) (h1 : ∀ (x0 : α0) (x1 : α1) (x2 : α2) (x3 : α3) (x4 : α4) (x5 : α5), K0 x0 x1 x2 x3 x4 x5 = some r → P x0 x1 x2 x3 x4 x5) (h2 : ∀ K : α0 → α1 → α2 → α3 → α4 → α5 → Option γ, (∀ (x0 : α0) (x1 : α1) (x2 : α2) (x3 : α3) (x4 : α4) (x5 : α5), K x0 x1 x2 x3 x4 x5 = some r → P x0 x1 x2 x3 x4 x5) → F K = some r → Q) : Q := h2 K0 h1 h
def jo7 {α0 : Type} {α1 : Type} {α2 : Type} {α3 : Type} {α4 : Type} {α5 : Type} {α6 : Type} {γ : Type} (K0 : α0 → α1 → α2 → α3 → α4 → α5 → α6 → Option γ) (F : (α0 → α1 → α2 → α3 → α4 → α5 → α6 → Option γ) → Option γ) : Option γ := F K0
theorem jo7_s {α0 : Type} {α1 : Type} {α2 : Type} {α3 : Type} {α4 : Type} {α5 : Type} {α6 : Type} {γ : Type} {K0 : α0 → α1 → α2 → α3 → α4 → α5 → α6 → Option γ} {F : (α0 → α1 → α2 → α3 → α4 → α5 → α6 → Option γ) → Option γ} {r : γ} {P : α0 → α1 → α2 → α3 → α4 → α5 → α6 → Prop} {Q : Prop} (h : jo7 K0 F = some r) (h1 : ∀ (x0 : α0) (x1 : α1) (x2 : α2) (x3 : α3) (x4 : α4) (x5 : α5) (x6 : α6), K0 x0 x1 x2 x3 x4 x5 x6 = some r → P x0 x1 x2 x3 x4 x5 x6) (h2 : ∀ K : α0 → α1 → α2 → α3 → α4 → α5 → α6 → Option γ, (∀ (x0 : α0) (x1 : α1) (x2 : α2) (x3 : α3) (x4 : α4) (x5 : α5) (x6 : α6), K x0 x1 x2 x3 x4 x5 x6 = some r → P x0 x1 x2 x3 x4 x5 x6) → F K = some r → Q) : Q := h2 K0 h1 h
def jo8 {α0 : Type} {α1 : Type} {α2 : Type} {α3 : Type} {α4 : Type} {α5 : Type} {α6 : Type} {α7 : Type} {γ : Type} (K0 : α0 → α1 → α2 → α3 → α4 → α5 → α6 → α7 → Option γ) (F : (α0 → α1 → α2 → α3 → α4 → α5 → α6 → α7 → Option γ) → Option γ) : Option γ := F K0
theorem jo8_s {α0 : Type} {α1 : Type} {α2 : Type} {α3 : Type} {α4 : Type} {α5 : Type} {α6 : Type} {α7 : Type} {γ : Type} {K0 : α0 → α1 → α2 → α3 → α4 → α5 → α6 → α7 → Option γ} {F : (α0 → α1 → α2 → α3 → α4 → α5 → α6 → α7 → Option γ) → Option γ} {r : γ} {P : α0 → α1 → α2 → α3 → α4 → α5 → α6 → α7 → Prop} {Q : Prop} (h : jo8 K0 F = some r) (h1 : ∀ (x0 : α0) (x1 : α1) (x2 : α2) (x3 : α3) (x4 : α4) (x5 : α5) (x6 : α6) (x7 : α7), K0 x0 x1 x2 x3 x4 x5 x6 x7 = some r → P x0 x1 x2 x3 x4 x5 x6 x7) (h2 : ∀ K : α0 → α1 → α2 → α3 → α4 → α5 → α6 → α7 → Option γ, (∀ (x0 : α0) (x1 : α1) (x2 : α2) (x3 : α3) (x4 : α4) (x5 : α5) (x6 : α6) (x7 : α7), K x0 x1 x2 x3 x4 x5 x6 x7 = some r → P x0 x1 x2 x3 x4 x5 x6 x7) → F K = some r → Q) : Q := h2 K0 h1 h
