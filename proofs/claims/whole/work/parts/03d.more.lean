/-! more rows of the judgement: the class -/
theorem zcr (x : Nat) : (Value.ref x).category = 1 := rfl
theorem zci (x : Int32) : (Value.int x).category = 1 := rfl
theorem zcl (x : Int64) : (Value.long x).category = 2 := rfl
section ZK2
variable {α β : Type}
def kN (x : Option β) (a : Option α) (b : β → Option α) : Option α := match x with
  | none => a
  | some y => b y
def kD3 {T0 T1 T2 : Type} (x : Option (T0 × T1 × T2)) (f : T0 → T1 → T2 → Option α) : Option α := x.bind (fun u => f u.1 u.2.1 u.2.2)
theorem kD3_e {T0 T1 T2 : Type} {x : Option (T0 × T1 × T2)} {f : T0 → T1 → T2 → Option α} {o : α} (h : kD3 x f = some o) : ∃ x0 x1 x2, x = some (x0, x1, x2) ∧ f x0 x1 x2 = some o := by
  cases x with
  | none => cases h
  | some z => exact ⟨z.1, z.2.1, z.2.2, rfl, h⟩
def kD4 {T0 T1 T2 T3 : Type} (x : Option (T0 × T1 × T2 × T3)) (f : T0 → T1 → T2 → T3 → Option α) : Option α := x.bind (fun u => f u.1 u.2.1 u.2.2.1 u.2.2.2)
theorem kD4_e {T0 T1 T2 T3 : Type} {x : Option (T0 × T1 × T2 × T3)} {f : T0 → T1 → T2 → T3 → Option α} {o : α} (h : kD4 x f = some o) : ∃ x0 x1 x2 x3, x = some (x0, x1, x2, x3) ∧ f x0 x1 x2 x3 = some o := by
  cases x with
  | none => cases h
  | some z => exact ⟨z.1, z.2.1, z.2.2.1, z.2.2.2, rfl, h⟩
def kD5 {T0 T1 T2 T3 T4 : Type} (x : Option (T0 × T1 × T2 × T3 × T4)) (f : T0 → T1 → T2 → T3 → T4 → Option α) : Option α := x.bind (fun u => f u.1 u.2.1 u.2.2.1 u.2.2.2.1 u.2.2.2.2)
theorem kD5_e {T0 T1 T2 T3 T4 : Type} {x : Option (T0 × T1 × T2 × T3 × T4)} {f : T0 → T1 → T2 → T3 → T4 → Option α} {o : α} (h : kD5 x f = some o) : ∃ x0 x1 x2 x3 x4, x = some (x0, x1, x2, x3, x4) ∧ f x0 x1 x2 x3 x4 = some o := by
  cases x with
  | none => cases h
  | some z => exact ⟨z.1, z.2.1, z.2.2.1, z.2.2.2.1, z.2.2.2.2, rfl, h⟩
def kD6 {T0 T1 T2 T3 T4 T5 : Type} (x : Option (T0 × T1 × T2 × T3 × T4 × T5)) (f : T0 → T1 → T2 → T3 → T4 → T5 → Option α) : Option α := x.bind (fun u => f u.1 u.2.1 u.2.2.1 u.2.2.2.1 u.2.2.2.2.1 u.2.2.2.2.2)
theorem kD6_e {T0 T1 T2 T3 T4 T5 : Type} {x : Option (T0 × T1 × T2 × T3 × T4 × T5)} {f : T0 → T1 → T2 → T3 → T4 → T5 → Option α} {o : α} (h : kD6 x f = some o) : ∃ x0 x1 x2 x3 x4 x5, x = some (x0, x1, x2, x3, x4, x5) ∧ f x0 x1 x2 x3 x4 x5 = some o := by
  cases x with
  | none => cases h
  | some z => exact ⟨z.1, z.2.1, z.2.2.1, z.2.2.2.1, z.2.2.2.2.1, z.2.2.2.2.2, rfl, h⟩
def kD7 {T0 T1 T2 T3 T4 T5 T6 : Type} (x : Option (T0 × T1 × T2 × T3 × T4 × T5 × T6)) (f : T0 → T1 → T2 → T3 → T4 → T5 → T6 → Option α) : Option α := x.bind (fun u => f u.1 u.2.1 u.2.2.1 u.2.2.2.1 u.2.2.2.2.1 u.2.2.2.2.2.1 u.2.2.2.2.2.2)
theorem kD7_e {T0 T1 T2 T3 T4 T5 T6 : Type} {x : Option (T0 × T1 × T2 × T3 × T4 × T5 × T6)} {f : T0 → T1 → T2 → T3 → T4 → T5 → T6 → Option α} {o : α} (h : kD7 x f = some o) : ∃ x0 x1 x2 x3 x4 x5 x6, x = some (x0, x1, x2, x3, x4, x5, x6) ∧ f x0 x1 x2 x3 x4 x5 x6 = some o := by
  cases x with
  | none => cases h
  | some z => exact ⟨z.1, z.2.1, z.2.2.1, z.2.2.2.1, z.2.2.2.2.1, z.2.2.2.2.2.1, z.2.2.2.2.2.2, rfl, h⟩
def kD8 {T0 T1 T2 T3 T4 T5 T6 T7 : Type} (x : Option (T0 × T1 × T2 × T3 × T4 × T5 × T6 × T7)) (f : T0 → T1 → T2 → T3 → T4 → T5 → T6 → T7 → Option α) : Option α := x.bind (fun u => f u.1 u.2.1 u.2.2.1 u.2.2.2.1 u.2.2.2.2.1 u.2.2.2.2.2.1 u.2.2.2.2.2.2.1 u.2.2.2.2.2.2.2)
theorem kD8_e {T0 T1 T2 T3 T4 T5 T6 T7 : Type} {x : Option (T0 × T1 × T2 × T3 × T4 × T5 × T6 × T7)} {f : T0 → T1 → T2 → T3 → T4 → T5 → T6 → T7 → Option α} {o : α} (h : kD8 x f = some o) : ∃ x0 x1 x2 x3 x4 x5 x6 x7, x = some (x0, x1, x2, x3, x4, x5, x6, x7) ∧ f x0 x1 x2 x3 x4 x5 x6 x7 = some o := by
  cases x with
  | none => cases h
  | some z => exact ⟨z.1, z.2.1, z.2.2.1, z.2.2.2.1, z.2.2.2.2.1, z.2.2.2.2.2.1, z.2.2.2.2.2.2.1, z.2.2.2.2.2.2.2, rfl, h⟩
def kD9 {T0 T1 T2 T3 T4 T5 T6 T7 T8 : Type} (x : Option (T0 × T1 × T2 × T3 × T4 × T5 × T6 × T7 × T8)) (f : T0 → T1 → T2 → T3 → T4 → T5 → T6 → T7 → T8 → Option α) : Option α := x.bind (fun u => f u.1 u.2.1 u.2.2.1 u.2.2.2.1 u.2.2.2.2.1 u.2.2.2.2.2.1 u.2.2.2.2.2.2.1 u.2.2.2.2.2.2.2.1 u.2.2.2.2.2.2.2.2)
theorem kD9_e {T0 T1 T2 T3 T4 T5 T6 T7 T8 : Type} {x : Option (T0 × T1 × T2 × T3 × T4 × T5 × T6 × T7 × T8)} {f : T0 → T1 → T2 → T3 → T4 → T5 → T6 → T7 → T8 → Option α} {o : α} (h : kD9 x f = some o) : ∃ x0 x1 x2 x3 x4 x5 x6 x7 x8, x = some (x0, x1, x2, x3, x4, x5, x6, x7, x8) ∧ f x0 x1 x2 x3 x4 x5 x6 x7 x8 = some o := by
  cases x with
  | none => cases h
  | some z => exact ⟨z.1, z.2.1, z.2.2.1, z.2.2.2.1, z.2.2.2.2.1, z.2.2.2.2.2.1, z.2.2.2.2.2.2.1, z.2.2.2.2.2.2.2.1, z.2.2.2.2.2.2.2.2, rfl, h⟩
theorem kN_n {x : Option β} {a : Option α} {b : β → Option α} {o : Option α} (h : kN x a b = o) (e : x = none) : a = o := by subst e; exact h
theorem kN_s {x : Option β} {a : Option α} {b : β → Option α} {o : Option α} {y : β} (h : kN x a b = o) (e : x = some y) : b y = o := by subst e; exact h
end ZK2
section ZL2
variable {p : Program} {l : Launch} {e : Env} {R : Room} {s : State} {m : MethodId} {args : Array Value} {below : List Frame} {meth : Method} {c : Code} {Q : State → Prop} {A : Nat → Prop} {G : va_G} {ct : Nat → ClassId} {nL cells slots : Nat} {cc : ByteArray} {own : String} {Cs Cs' Cc C1 C2 : List va_W} {lv lv' : List (Nat × Value)} {pc : Nat} {st st0 : List Value} {is : List Nat} {v : Option Value} {mc ms : Nat}
theorem z_world (h : zfl Cs = zfl Cs') (k : zJ p l e R s m args below meth c Q A G nL cells slots Cs' lv pc st) : zJ p l e R s m args below meth c Q A G nL cells slots Cs lv pc st := by
  intro H locs ls hP hD hS hl
  rw [h] at hP hD
  exact k H locs ls hP hD hS hl
theorem z_pick (is : List Nat) (hn : va_nd is = true) (his : is.map (fun i => Cs[i]?) = Cs'.map some) (k : zJ p l e R s m args below meth c Q A G nL cells slots Cs' lv pc st) : zJ p l e R s m args below meth c Q A G nL cells slots Cs lv pc st := fun H locs ls hP hD hS hl => k H locs ls (zsubP hP his) (zsubD hD hn his) hS hl
theorem z_stack {st' : List Value} (h : st = st') (k : zJ p l e R s m args below meth c Q A G nL cells slots Cs lv pc st') : zJ p l e R s m args below meth c Q A G nL cells slots Cs lv pc st := h ▸ k
theorem z_qstore_n (E : zE p s m args meth c A G ct nL cc own) {j : Fin 4} {i : Nat} {x : Option Nat} (hdg : decode cc pc = .ok (.astore_n j, 1)) (hi : (j : Nat) = i) (hn : i < nL) (hl9 : (i, va_rf x) :: lv.filter (fun q => !(q.1 == i) && !(q.1 + 1 == i && q.2.category == 2)) = lv') (k : zJ p l e R s m args below meth c Q A G nL cells slots Cs lv' (pc + 1) st) : zJ p l e R s m args below meth c Q A G nL cells slots Cs lv pc (va_rf x :: st) := by
  intro H locs ls hP hD hS hl
  cases x with
  | none => exact lv_astore_nN E.1 E.2.1 hdg hi hl hn hl9 (fun ls9 hl9 => k H locs ls9 hP hD hS hl9)
  | some x => exact lv_astore_n E.1 E.2.1 hdg hi hl hn hl9 (fun ls9 hl9 => k H locs ls9 hP hD hS hl9)
theorem z_qstore (E : zE p s m args meth c A G ct nL cc own) {i : Nat} {x : Option Nat} (hdg : decode cc pc = .ok (.astore i, 2)) (hn : i < nL) (hl9 : (i, va_rf x) :: lv.filter (fun q => !(q.1 == i) && !(q.1 + 1 == i && q.2.category == 2)) = lv') (k : zJ p l e R s m args below meth c Q A G nL cells slots Cs lv' (pc + 2) st) : zJ p l e R s m args below meth c Q A G nL cells slots Cs lv pc (va_rf x :: st) := by
  intro H locs ls hP hD hS hl
  cases x with
  | none => exact lv_astoreN E.1 E.2.1 hdg hl hn hl9 (fun ls9 hl9 => k H locs ls9 hP hD hS hl9)
  | some x => exact lv_astore E.1 E.2.1 hdg hl hn hl9 (fun ls9 hl9 => k H locs ls9 hP hD hS hl9)
theorem z_aret (E : zE p s m args meth c A G ct nL cc own) {x : Option Nat} {n : String} (hr : meth.sig.returnType = some (.object n)) (hdg : decode cc pc = .ok (.areturn, 1)) : zJ p l e R s m args below meth c (zQ G ct (some (va_rf x)) Cs A below args s cells slots) A G nL cells slots Cs lv pc [va_rf x] := by
  intro H locs ls hP hD hS hl
  exact W.aret (v := va_rf x) E.1 E.2.1 hr (Or.inl ⟨n, rfl⟩) (by cases x with | none => exact Or.inl rfl | some x => exact Or.inr ⟨x, rfl⟩) (fun t ht hW => ⟨⟨rfl, by rw [ht]; exact hP, va_K.moved hW.alike E.2.2.2.2.2.1, hD⟩, hS.F ht⟩) hS.2.2 hdg E.2.2.2.2.2.2.2
theorem z_ifnullR (E : zE p s m args meth c A G ct nL cc own) {x : Nat} {off : Int} (hdg : decode cc pc = .ok (.ifnull off, 3)) (k : zJ p l e R s m args below meth c Q A G nL cells slots Cs lv (pc + 3) st) : zJ p l e R s m args below meth c Q A G nL cells slots Cs lv pc (.ref x :: st) := by
  intro H locs ls hP hD hS hl
  exact lv_ifnull E.1 E.2.1 hdg (k H locs ls hP hD hS hl)
theorem z_ifnonnullR (E : zE p s m args meth c A G ct nL cc own) {x : Nat} {off : Int} {tgt : Nat} (hdg : decode cc pc = .ok (.ifnonnull off, 3)) (ht : (pc : Int) + off = (tgt : Int)) (k : zJ p l e R s m args below meth c Q A G nL cells slots Cs lv tgt st) : zJ p l e R s m args below meth c Q A G nL cells slots Cs lv pc (.ref x :: st) := by
  intro H locs ls hP hD hS hl
  exact lv_ifnonnull E.1 E.2.1 hdg ht (k H locs ls hP hD hS hl)
theorem z_mmin (E : zE p s m args meth c A G ct nL cc own) {index : Nat} {x y v : Int32} (hlink : Cond.methodLink own index Lib.Math.min.name ∈ wsL_law) (h1 : Cond.static Lib.Math.min.name ∈ wsL_law) (h2 : Cond.initialized "java/lang/Math" ∈ wsL_law) (h3 : Cond.code Lib.Math.min.name Lib.Math.min.code 2 (some .int) ∈ wsL_law) (hR : 1 ≤ R.frames ∧ (st.map fun v => v.category).sum + 13 ≤ R.locals ∧ cells ≤ R.cells ∧ slots ≤ R.slots) (hv : v = if y < x then y else x) (hdg : decode cc pc = .ok (.invokestatic index, 3)) (k : zJ p l e R s m args below meth c Q A G nL cells slots Cs lv (pc + 3) (.int v :: st)) : zJ p l e R s m args below meth c Q A G nL cells slots Cs lv pc (.int y :: .int x :: st) := by
  subst hv
  intro H locs ls hP hD hS hl
  exact va_mmin E.1 E.2.1 (E.2.2.1.trans hl.1.symm) E.2.2.2.1 (E.2.2.2.2.1 _ hlink) (E.2.2.2.2.1 _ h1) (E.2.2.2.2.1 _ h2) (E.2.2.2.2.1 _ h3) hR.1 hR.2.1 hR.2.2.1 hR.2.2.2 hdg (k H locs ls hP hD hS hl)
theorem z_mmax (E : zE p s m args meth c A G ct nL cc own) {index : Nat} {x y v : Int32} (hlink : Cond.methodLink own index Lib.Math.max.name ∈ wsL_law) (h1 : Cond.static Lib.Math.max.name ∈ wsL_law) (h2 : Cond.initialized "java/lang/Math" ∈ wsL_law) (h3 : Cond.code Lib.Math.max.name Lib.Math.max.code 2 (some .int) ∈ wsL_law) (hR : 1 ≤ R.frames ∧ (st.map fun v => v.category).sum + 13 ≤ R.locals ∧ cells ≤ R.cells ∧ slots ≤ R.slots) (hv : v = if x < y then y else x) (hdg : decode cc pc = .ok (.invokestatic index, 3)) (k : zJ p l e R s m args below meth c Q A G nL cells slots Cs lv (pc + 3) (.int v :: st)) : zJ p l e R s m args below meth c Q A G nL cells slots Cs lv pc (.int y :: .int x :: st) := by
  subst hv
  intro H locs ls hP hD hS hl
  exact va_mmax E.1 E.2.1 (E.2.2.1.trans hl.1.symm) E.2.2.2.1 (E.2.2.2.2.1 _ hlink) (E.2.2.2.2.1 _ h1) (E.2.2.2.2.1 _ h2) (E.2.2.2.2.1 _ h3) hR.1 hR.2.1 hR.2.2.1 hR.2.2.2 hdg (k H locs ls hP hD hS hl)
/-- System.arraycopy between rows of ints -/
theorem z_copyi (E : zE p s m args meth c A G ct nL cc own) {index i0 j0 i1 j1 a0 a1 n0 n1 : Nat} {w0 w1 w2 : va_W} {f g : Nat → Int32} (hlink : Cond.methodLink own index arraycopyName ∈ wsL_law) (h1 : Cond.native arraycopyName ∈ wsL_law) (h2 : Cond.static arraycopyName ∈ wsL_law) (h3 : Cond.initialized "java/lang/System" ∈ wsL_law)
    (hi0 : Cs[i0]? = some w0) (hj0 : w0[j0]? = some (a0, .inl (ct 0, n0, .inl f))) (hi1 : Cs[i1]? = some w1) (hj1 : w1[j1]? = some (a1, .inl (ct 0, n1, .inl g))) {sp dp n : Int32} (c1 : ¬ sp < 0) (c2 : ¬ dp < 0) (c3 : ¬ n < 0) (c4 : sp.toNatClampNeg + n.toNatClampNeg ≤ n0) (c5 : dp.toNatClampNeg + n.toNatClampNeg ≤ n1) (hw2 : w1.set j1 (a1, .inl (ct 0, n1, .inl (va_cpy f g sp.toNatClampNeg dp.toNatClampNeg n.toNatClampNeg))) = w2) (hR : 1 ≤ R.frames ∧ (st.map fun v => v.category).sum + (nativeFrameWords "java/lang/System" "arraycopy" 5 + 11) ≤ R.locals)
    (hdg : decode cc pc = .ok (.invokestatic index, 3)) (k : zJ p l e R s m args below meth c Q A G nL cells slots (Cs.set i1 w2) lv (pc + 3) st) : zJ p l e R s m args below meth c Q A G nL cells slots Cs lv pc (.int n :: .int dp :: .ref a1 :: .int sp :: .ref a0 :: st) := by
  subst hw2
  intro H locs ls hP hD hS hl
  obtain ⟨q0, g0, -⟩ := zfl_cell hi0 hj0
  obtain ⟨q1, g1, g2⟩ := zfl_cell hi1 hj1
  refine va_copyi (ty := .int) E.1 E.2.1 (E.2.2.1.trans hl.1.symm) E.2.2.2.1 (E.2.2.2.2.1 _ hlink) (E.2.2.2.2.1 _ h1) (E.2.2.2.2.1 _ h2) (E.2.2.2.2.1 _ h3) E.2.2.2.2.2.1 hP hD hS q0 q1 0 0 g0 g1 rfl rfl rfl c1 c2 c3 c4 c5 (fun _ _ => rfl) hR.1 hR.2 hdg (fun H1 locs1 hP1 hD1 hS1 => ?_)
  rw [g2] at hP1 hD1
  exact k H1 locs1 ls hP1 hD1 hS1 hl
theorem z_copyl (E : zE p s m args meth c A G ct nL cc own) {index i0 j0 i1 j1 a0 a1 n0 n1 : Nat} {w0 w1 w2 : va_W} {f g : Nat → Int64} (hlink : Cond.methodLink own index arraycopyName ∈ wsL_law) (h1 : Cond.native arraycopyName ∈ wsL_law) (h2 : Cond.static arraycopyName ∈ wsL_law) (h3 : Cond.initialized "java/lang/System" ∈ wsL_law)
    (hi0 : Cs[i0]? = some w0) (hj0 : w0[j0]? = some (a0, .inl (ct 1, n0, .inr (.inl f)))) (hi1 : Cs[i1]? = some w1) (hj1 : w1[j1]? = some (a1, .inl (ct 1, n1, .inr (.inl g)))) {sp dp n : Int32} (c1 : ¬ sp < 0) (c2 : ¬ dp < 0) (c3 : ¬ n < 0) (c4 : sp.toNatClampNeg + n.toNatClampNeg ≤ n0) (c5 : dp.toNatClampNeg + n.toNatClampNeg ≤ n1) (hw2 : w1.set j1 (a1, .inl (ct 1, n1, .inr (.inl (va_cpy f g sp.toNatClampNeg dp.toNatClampNeg n.toNatClampNeg)))) = w2) (hR : 1 ≤ R.frames ∧ (st.map fun v => v.category).sum + (nativeFrameWords "java/lang/System" "arraycopy" 5 + 11) ≤ R.locals)
    (hdg : decode cc pc = .ok (.invokestatic index, 3)) (k : zJ p l e R s m args below meth c Q A G nL cells slots (Cs.set i1 w2) lv (pc + 3) st) : zJ p l e R s m args below meth c Q A G nL cells slots Cs lv pc (.int n :: .int dp :: .ref a1 :: .int sp :: .ref a0 :: st) := by
  subst hw2
  intro H locs ls hP hD hS hl
  obtain ⟨q0, g0, -⟩ := zfl_cell hi0 hj0
  obtain ⟨q1, g1, g2⟩ := zfl_cell hi1 hj1
  refine va_copyl (ty := .long) E.1 E.2.1 (E.2.2.1.trans hl.1.symm) E.2.2.2.1 (E.2.2.2.2.1 _ hlink) (E.2.2.2.2.1 _ h1) (E.2.2.2.2.1 _ h2) (E.2.2.2.2.1 _ h3) E.2.2.2.2.2.1 hP hD hS q0 q1 1 1 g0 g1 rfl rfl rfl c1 c2 c3 c4 c5 (fun _ _ => rfl) hR.1 hR.2 hdg (fun H1 locs1 hP1 hD1 hS1 => ?_)
  rw [g2] at hP1 hD1
  exact k H1 locs1 ls hP1 hD1 hS1 hl
/-- a call whose body is chosen by the receiver's class, the declared method another -/
theorem z_callO (E : zE p s m args meth c A G ct nL cc own) {x y : MethodName} {C owner : String} {bytes b0 : ByteArray} {maxL n index b m0 : Nat} {ret r0 : Option FieldType} {rm' : Room} {As st' : List Value} (hC : zC l y bytes maxL ret rm' G ct (.ref b :: As) Cc C1 v 0 0) (h1 : Cond.methodLink own index x ∈ wsL_law) (h2 : Cond.sameMethod x.cls owner x.name x.desc ∈ wsL_law) (h3 : Cond.instanceMethod ⟨owner, x.name, x.desc⟩ ∈ wsL_law) (h4 : Cond.selects C x y ∈ wsL_law) (h5 : Cond.instanceMethod y ∈ wsL_law) (h6 : Cond.initialized y.cls ∈ wsL_law) (h7 : Cond.code y bytes maxL ret ∈ wsL_law) (h8 : Cond.code ⟨owner, x.name, x.desc⟩ b0 m0 r0 ∈ wsL_law) (hd : owner ≠ "java/lang/invoke/MethodHandle" ∧ owner ≠ "java/lang/invoke/VarHandle" ∧ (parseMethodDescriptor x.desc).map (fun d => d.parameters.length) = some n)
    (hR : rm'.frames + 1 ≤ R.frames ∧ 8 + (maxL + 11) + rm'.locals ≤ R.locals ∧ cells ≤ R.cells ∧ slots ≤ R.slots) (hrc : rm'.cells = 0) (hrs : rm'.slots = 0) (hn : As.length = n) (hnd : va_nd is = true) (his : is.map (fun i => Cs[i]?) = Cc.map some) (hlen : is.length = C1.length) (hrv : zRv Cc b C) (hst : st0 = As.reverse ++ .ref b :: st) (hcat : (st.map fun v => v.category).sum ≤ 8) (hdg : decode cc pc = .ok (.invokevirtual index, 3))
    (hz : zset Cs is C1 = C2) (hz3 : v.toList ++ st = st') (k : zJ p l e R s m args below meth c Q A G nL cells slots C2 lv (pc + 3) st') : zJ p l e R s m args below meth c Q A G nL cells slots Cs lv pc st0 := by
  subst hst
  subst hz3
  intro H locs ls hP hD hS hl
  have hPc := zsubP hP his
  have hDc := zsubD hD hnd his
  obtain ⟨j, i, ci, w, fs, q, r1, r2, r3, r4⟩ := hrv
  obtain ⟨k9, r5, -⟩ := zfl_cell r1 r2
  subst r4
  have hg : GoodIn wsL_law (va_wsO own index q.1 owner x y (Cond.code y bytes maxL ret :: wsL_law)) := zgood h7 (fun w h => by
    simp only [List.mem_cons, List.not_mem_nil, or_false] at h
    rcases h with rfl | rfl | rfl | rfl | rfl | rfl
    · exact h1
    · exact h2
    · exact h3
    · exact h4
    · exact h5
    · exact h6)
  exact z_back E hP hD hS hl hnd his hlen (va_runU (As := As) (rest := st) ⟨E.1, E.2.1, E.2.2.1, E.2.2.2.1, E.2.2.2.2.1⟩ (hC H.size) (va_cwO n E.2.2.2.2.1 hg rfl hrc hrs h8 hd ⟨hR.1, hR.2.1⟩) ⟨zPre_blind, va_recv E.2.2.2.2.2.1 hPc r3 r5, fun U hU hW => ⟨rfl, by rw [hU], by rw [hU]; exact hPc, va_K.moved hW.alike E.2.2.2.2.2.1, hDc.weaken (fun _ _ _ _ => trivial)⟩⟩ rfl hn hl.1 rfl (lv_room hcat) hdg hR.2.2) (fun st₀ v' t _ h => h) hz k
/-- the same, the body chosen being the declared method's own -/
theorem z_callU (E : zE p s m args meth c A G ct nL cc own) {x y : MethodName} {C owner : String} {bytes : ByteArray} {maxL n index b : Nat} {ret : Option FieldType} {rm' : Room} {As st' : List Value} (hC : zC l y bytes maxL ret rm' G ct (.ref b :: As) Cc C1 v 0 0) (h1 : Cond.methodLink own index x ∈ wsL_law) (h2 : Cond.sameMethod x.cls owner x.name x.desc ∈ wsL_law) (h4 : Cond.selects C x y ∈ wsL_law) (h5 : Cond.instanceMethod y ∈ wsL_law) (h6 : Cond.initialized y.cls ∈ wsL_law) (h7 : Cond.code y bytes maxL ret ∈ wsL_law) (hyx : y = ⟨owner, x.name, x.desc⟩) (hd : owner ≠ "java/lang/invoke/MethodHandle" ∧ owner ≠ "java/lang/invoke/VarHandle" ∧ (parseMethodDescriptor x.desc).map (fun d => d.parameters.length) = some n)
    (hR : rm'.frames + 1 ≤ R.frames ∧ 8 + (maxL + 11) + rm'.locals ≤ R.locals ∧ cells ≤ R.cells ∧ slots ≤ R.slots) (hrc : rm'.cells = 0) (hrs : rm'.slots = 0) (hn : As.length = n) (hnd : va_nd is = true) (his : is.map (fun i => Cs[i]?) = Cc.map some) (hlen : is.length = C1.length) (hrv : zRv Cc b C) (hst : st0 = As.reverse ++ .ref b :: st) (hcat : (st.map fun v => v.category).sum ≤ 8) (hdg : decode cc pc = .ok (.invokevirtual index, 3))
    (hz : zset Cs is C1 = C2) (hz3 : v.toList ++ st = st') (k : zJ p l e R s m args below meth c Q A G nL cells slots C2 lv (pc + 3) st') : zJ p l e R s m args below meth c Q A G nL cells slots Cs lv pc st0 := by
  subst hst
  subst hz3
  intro H locs ls hP hD hS hl
  have hPc := zsubP hP his
  have hDc := zsubD hD hnd his
  obtain ⟨j, i, ci, w, fs, q, r1, r2, r3, r4⟩ := hrv
  obtain ⟨k9, r5, -⟩ := zfl_cell r1 r2
  subst r4
  have hg : GoodIn wsL_law (va_wsU own index q.1 owner x y (Cond.code y bytes maxL ret :: wsL_law)) := zgood h7 (fun w h => by
    simp only [List.mem_cons, List.not_mem_nil, or_false] at h
    rcases h with rfl | rfl | rfl | rfl | rfl
    · exact h1
    · exact h2
    · exact h4
    · exact h5
    · exact h6)
  exact z_back E hP hD hS hl hnd his hlen (va_runU (As := As) (rest := st) ⟨E.1, E.2.1, E.2.2.1, E.2.2.2.1, E.2.2.2.2.1⟩ (hC H.size) (va_cwU n E.2.2.2.2.1 hg rfl hrc hrs hyx hd ⟨hR.1, hR.2.1⟩) ⟨zPre_blind, va_recv E.2.2.2.2.2.1 hPc r3 r5, fun U hU hW => ⟨rfl, by rw [hU], by rw [hU]; exact hPc, va_K.moved hW.alike E.2.2.2.2.2.1, hDc.weaken (fun _ _ _ _ => trivial)⟩⟩ rfl hn hl.1 rfl (lv_room hcat) hdg hR.2.2) (fun st₀ v' t _ h => h) hz k
/-- super.m(..) -/
theorem z_callSU (E : zE p s m args meth c A G ct nL cc own) {y : MethodName} {bytes : ByteArray} {maxL n index b : Nat} {ret : Option FieldType} {rm' : Room} {As st' : List Value} (hC : zC l y bytes maxL ret rm' G ct (.ref b :: As) Cc C1 v 0 0) (h1 : Cond.methodLink own index y ∈ wsL_law) (h2 : Cond.sameMethod y.cls y.cls y.name y.desc ∈ wsL_law) (h3 : Cond.superclass own y.cls ∈ wsL_law) (h5 : Cond.instanceMethod y ∈ wsL_law) (h6 : Cond.initialized y.cls ∈ wsL_law) (h7 : Cond.code y bytes maxL ret ∈ wsL_law) (hd : y.name ≠ "<init>" ∧ (parseMethodDescriptor y.desc).map (fun d => d.parameters.length) = some n)
    (hR : rm'.frames + 1 ≤ R.frames ∧ 8 + (maxL + 11) + rm'.locals ≤ R.locals ∧ cells ≤ R.cells ∧ slots ≤ R.slots) (hrc : rm'.cells = 0) (hrs : rm'.slots = 0) (hn : As.length = n) (hnd : va_nd is = true) (his : is.map (fun i => Cs[i]?) = Cc.map some) (hlen : is.length = C1.length) (hrv : ∃ (j i ci : Nat) (w : va_W) (fs : List Value) (q : vw_C), Cs[j]? = some w ∧ w[i]? = some (b, .inr (ci, fs)) ∧ vwCl[ci]? = some q) (hst : st0 = As.reverse ++ .ref b :: st) (hcat : (st.map fun v => v.category).sum ≤ 8) (hdg : decode cc pc = .ok (.invokespecial index, 3))
    (hz : zset Cs is C1 = C2) (hz3 : v.toList ++ st = st') (k : zJ p l e R s m args below meth c Q A G nL cells slots C2 lv (pc + 3) st') : zJ p l e R s m args below meth c Q A G nL cells slots Cs lv pc st0 := by
  subst hst
  subst hz3
  intro H locs ls hP hD hS hl
  have hPc := zsubP hP his
  have hDc := zsubD hD hnd his
  obtain ⟨j, i, ci, w, fs, q, r1, r2, r3⟩ := hrv
  obtain ⟨k9, r5, -⟩ := zfl_cell r1 r2
  have hg : GoodIn wsL_law (va_wsSU own index y (Cond.code y bytes maxL ret :: wsL_law)) := zgood h7 (fun w h => by
    simp only [List.mem_cons, List.not_mem_nil, or_false] at h
    rcases h with rfl | rfl | rfl | rfl | rfl
    · exact h1
    · exact h2
    · exact h3
    · exact h5
    · exact h6)
  exact z_back E hP hD hS hl hnd his hlen (va_runSU (As := As) (rest := st) (E.2.2.2.2.2.1.1 ci q r3).2 ⟨E.1, E.2.1, E.2.2.1, E.2.2.2.1, E.2.2.2.2.1⟩ (hC H.size) (va_cwSU n E.2.2.2.2.1 hg rfl hrc hrs hd ⟨hR.1, hR.2.1⟩) ⟨zPre_blind, va_recv E.2.2.2.2.2.1 hP r3 r5, fun U hU hW => ⟨rfl, by rw [hU], by rw [hU]; exact hPc, va_K.moved hW.alike E.2.2.2.2.2.1, hDc.weaken (fun _ _ _ _ => trivial)⟩⟩ rfl hn hl.1 rfl (lv_room hcat) hdg hR.2.2) (fun st₀ v' t _ h => h) hz k
theorem x_callSX {T : State} {locs : List Loc} (X : Stand p l e R s m args below meth c T locs cells slots) (hexec : p.tables.exec = Jvm.exec) {own owner : String} {index : Nat} {x : MethodName} {bytes : ByteArray} {maxL : Nat} {ret : Option FieldType}
    (hown : s.vm.findClass own = some m.cls) (hlink : (Cond.methodLink own index x).before args s = true) (hsame : (Cond.sameMethod x.cls owner x.name x.desc).before args s = true) (hsup : (Cond.superclass own x.cls).before args s = true) (hsup2 : (Cond.superclass x.cls owner).before args s = true)
    (hinst : (Cond.instanceMethod ⟨owner, x.name, x.desc⟩).before args s = true) (hcode : (Cond.code ⟨owner, x.name, x.desc⟩ bytes maxL ret).before args s = true) (hno : x.name ≠ "<init>")
    {W : Nat} {Pre : Pt → Array Value → Prop} {Post : Pt → Array Value → Option Value → Pt → Prop} (hK : Back l R p e below s args ⟨owner, x.name, x.desc⟩ 3 W Pre Post)
    {b : Addr} {cellB : Cell} {kB : Class} (hcell : T.heap[b]? = some cellB) (hobj : cellB.vm.isStatics = false) (hkB : s.vm.classes[cellB.cls]? = some kB)
    {g : JFrame} (hg : g.method = m) (hsize : g.locals.size = c.maxLocals) {argsL rest : List Value} (hlen : ∀ sig, parseMethodDescriptor x.desc = some sig → argsL.length = sig.parameters.length)
    (hstack : g.stack = argsL.reverse ++ .ref b :: rest) (hW : 2 * g.monitorRoom + (rest.map fun v => v.category).sum ≤ W) (hdg : decode c.code g.pc = .ok (.invokespecial index, 3))
    (hpre : ∀ vm₁, s.WarmedH vm₁ → Pre ⟨T.setVm vm₁, locs, cells, slots⟩ (Value.ref b :: argsL).toArray) :
    ∃ (v : Option Value) (vm₁ : Vm) (B : Pt), s.WarmedH vm₁ ∧ Stand p l e R s m args below meth c B.U B.locs B.cells B.slots ∧ Post ⟨T.setVm vm₁, locs, cells, slots⟩ (Value.ref b :: argsL).toArray v B ∧
      ∀ target, Steps p.tables e below (B.U.setTop { g with pc := g.pc + 3, stack := v.toList ++ rest }) target → Steps p.tables e below (T.setTop g) target := by
  obtain ⟨mk, methM, hnamed, hmethM, hstM, habM⟩ := Cond.instanceMethod_spec hinst
  obtain ⟨methM', cM, hmethM', -, -, -, -, -, -, hsigM⟩ := Cond.code_spec hnamed hcode
  cases hmethM.symm.trans hmethM'
  obtain ⟨ps, dk, kp, hps, hdk, hkp, hsuper, -, -, hnid⟩ := Cond.superclass_spec hown hsup
  obtain ⟨ps2, dk2, kp2, hps2, hdk2, -, hsuper2, -, -, -⟩ := Cond.superclass_spec hps hsup2
  have hpm : ps2 = mk.cls := Option.some.inj (hps2.symm.trans (findClass_of_methodNamed hnamed))
  have hsub : s.vm.isSubclass ps mk.cls = true := by
    rw [← hpm]
    have hlt : ps < s.vm.classes.size := (Array.getElem?_eq_some_iff.mp hdk2).1
    obtain ⟨n, hn⟩ : ∃ n, s.vm.classes.size = n + 1 := ⟨s.vm.classes.size - 1, (Nat.sub_add_cancel (Nat.zero_lt_of_lt hlt)).symm⟩
    unfold Vm.isSubclass
    rw [hn]
    simp [Vm.isSubclassAux, hdk2, hsuper2]
  obtain ⟨vm₁, X₁, hstep₁⟩ := X.invokespecialUp hexec hown hlink hsame hnamed hmethM hstM habM hno hdk hnid hps hsuper hsub (a := b) (cell := cellB) hcell
    (fun z h => by rw [h] at hobj; cases hobj) hkB (g := g) hg (argsL := argsL) (rest := rest) (hlen _ hsigM) hstack hdg
  obtain ⟨v, B, X', hpost, hsteps⟩ := hK m meth c ⟨T.setVm vm₁, locs, cells, slots⟩ { g with stack := rest } (.invokespecial index) mk (Value.ref b :: argsL).toArray X₁ hg hsize hdg hW (X₁.named hnamed) (hpre vm₁ X₁.warmed)
  exact ⟨v, vm₁, B, X₁.warmed, X', hpost, fun target h => hstep₁ _ (by rw [doInvoke_state]; exact hsteps.trans h)⟩
/-- super.m(..), where the superclass has m from its own superclass -/
theorem z_callSX (E : zE p s m args meth c A G ct nL cc own) {x : MethodName} {owner : String} {bytes : ByteArray} {maxL n index b : Nat} {ret : Option FieldType} {rm' : Room} {As st' : List Value} (hC : zC l ⟨owner, x.name, x.desc⟩ bytes maxL ret rm' G ct (.ref b :: As) Cc C1 v 0 0) (h1 : Cond.methodLink own index x ∈ wsL_law) (h2 : Cond.sameMethod x.cls owner x.name x.desc ∈ wsL_law) (h3 : Cond.superclass own x.cls ∈ wsL_law) (h4 : Cond.superclass x.cls owner ∈ wsL_law) (h5 : Cond.instanceMethod ⟨owner, x.name, x.desc⟩ ∈ wsL_law) (h6 : Cond.initialized owner ∈ wsL_law) (h7 : Cond.code ⟨owner, x.name, x.desc⟩ bytes maxL ret ∈ wsL_law) (hd : x.name ≠ "<init>" ∧ (parseMethodDescriptor x.desc).map (fun d => d.parameters.length) = some n)
    (hR : rm'.frames + 1 ≤ R.frames ∧ 8 + (maxL + 11) + rm'.locals ≤ R.locals ∧ cells ≤ R.cells ∧ slots ≤ R.slots) (hrc : rm'.cells = 0) (hrs : rm'.slots = 0) (hn : As.length = n) (hnd : va_nd is = true) (his : is.map (fun i => Cs[i]?) = Cc.map some) (hlen : is.length = C1.length) (hrv : ∃ (j i ci : Nat) (w : va_W) (fs : List Value) (q : vw_C), Cs[j]? = some w ∧ w[i]? = some (b, .inr (ci, fs)) ∧ vwCl[ci]? = some q) (hst : st0 = As.reverse ++ .ref b :: st) (hcat : (st.map fun v => v.category).sum ≤ 8) (hdg : decode cc pc = .ok (.invokespecial index, 3))
    (hz : zset Cs is C1 = C2) (hz3 : v.toList ++ st = st') (k : zJ p l e R s m args below meth c Q A G nL cells slots C2 lv (pc + 3) st') : zJ p l e R s m args below meth c Q A G nL cells slots Cs lv pc st0 := by
  subst hst
  subst hz3
  intro H locs ls hP hD hS hl
  have hPc := zsubP hP his
  have hDc := zsubD hD hnd his
  obtain ⟨j, i, ci, w, fs, q, r1, r2, r3⟩ := hrv
  obtain ⟨k9, r5, -⟩ := zfl_cell r1 r2
  have hts := E.2.2.2.2.1
  have hgood : GoodIn wsL_law (Cond.code ⟨owner, x.name, x.desc⟩ bytes maxL ret :: wsL_law) := zgood (ws := []) h7 (fun w h => absurd h List.not_mem_nil)
  have hlen2 : ∀ sig, parseMethodDescriptor x.desc = some sig → n = sig.parameters.length := fun sig h => by
    have h2 := hd.2
    rw [h] at h2
    exact (Option.some.inj h2).symm
  refine z_back E hP hD hS hl hnd his hlen (mc := 0) (ms := 0) (Qa := zQc G ct v C1 (va_A (zfl Cc) H.size) (Value.ref b :: As).toArray) ?_ (fun st₀ v' t _ h => h) hz k
  have hK : Back l R p e below s args ⟨owner, x.name, x.desc⟩ 3 8 (PreOf R 0 0 (va_Pc (.ref b :: As) (zPre G ct Cc H.size))) (PostOf (zQc G ct v C1 (va_A (zfl Cc) H.size)) 0 0 (va_A (zfl Cc) H.size)) := back_of (bytes := bytes) (maxL := maxL) (ret := ret) (hC H.size) zPre_blind hrc hrs hR.1 hR.2.1 (pay_in hts hgood) List.mem_cons_self (fun a' U hW => word_at hW (Or.inl (by first | rfl | simp [Cond.onTables, Cond.keeps, Cond.steady])) (hts _ h6))
  obtain ⟨cellB, hcB, hoB, hclB⟩ := va_recv E.2.2.2.2.2.1 hP r3 r5
  obtain ⟨hfc, kB, hkB, -⟩ := (E.2.2.2.2.2.1.1 ci q r3).2
  have hcl : G.1 ci = cellB.cls := Option.some.inj (hfc.symm.trans hclB)
  rw [hcl] at hkB
  intro T hT Xs
  obtain ⟨v9, vm₁, ⟨U', l2, c2, s2⟩, hW₁, X', ⟨g', mk, t, L, e1, e2, hq, k1, hL, k2, k3⟩, st9⟩ := x_callSX Xs E.1 (bytes := bytes) (maxL := maxL) (ret := ret) E.2.2.2.1 (hts _ h1) (hts _ h2) (hts _ h3) (hts _ h4) (hts _ h5) (hts _ h7) hd.1 hK (by rw [hT]; exact hcB) hoB hkB (g := F0 m pc ls (As.reverse ++ .ref b :: st)) rfl (hl.1.trans E.2.2.1.symm) (argsL := As) (rest := st) (fun sig h => hn.trans (hlen2 sig h)) rfl (lv_room hcat) (by rw [E.2.1]; exact hdg)
    (fun vm₁ hW₁ => ⟨hR.2.2.1, hR.2.2.2, rfl, by rw [← hT]; rfl, by show va_P G vwCl (zfl Cc) T.heap; rw [hT]; exact hPc, va_K.moved hW₁.alike E.2.2.2.2.2.1, hDc.weaken (fun _ _ _ _ => trivial)⟩)
  dsimp only [Pt.U, Pt.locs, Pt.cells, Pt.slots] at X' e1 e2 k1 k2 k3 st9
  subst k1; subst k2; subst k3
  exact ⟨v9, (T.setVm vm₁).calling g' mk (Value.ref b :: As).toArray, t, U', L, hT, X', hL, e1, e2, hq, st9⟩
end ZL2
/-! parents and houses in any number -/
def wDp (g : Nat) (L : List (Nat × zPS)) : va_W := L.flatMap (fun x => wPa g x.1 x.2)
def plook : List (Nat × zPS) → Nat → Option zPS
  | [], _ => none
  | x :: L, q => if x.1 = q then some x.2 else plook L q
theorem wDp_at {g q : Nat} {v : zPS} : ∀ {L : List (Nat × zPS)}, plook L q = some v → ∃ A B, wDp g L = A ++ (wPa g q v ++ B)
  | [], h => by cases h
  | x :: L, h => by
    unfold plook at h
    split at h
    · rename_i e
      cases h
      exact ⟨[], wDp g L, by subst e; rfl⟩
    · obtain ⟨A, B, e⟩ := wDp_at (g := g) h
      exact ⟨wPa g x.1 x.2 ++ A, B, by show wPa g x.1 x.2 ++ wDp g L = _; rw [e, List.append_assoc]⟩
def wDh (ct : Nat → ClassId) (L : List ((Nat → Nat) × zQS)) : va_W := L.flatMap (fun x => wQ x.1 ct x.2)
def hlook : List ((Nat → Nat) × zQS) → Nat → Option ((Nat → Nat) × zQS)
  | [], _ => none
  | x :: L, q => if x.1 200 = q then some x else hlook L q
def hput : List ((Nat → Nat) × zQS) → Nat → zQS → List ((Nat → Nat) × zQS)
  | [], _, _ => []
  | x :: L, q, S => if x.1 200 = q then (x.1, S) :: L else x :: hput L q S
theorem wDh_at {ct : Nat → ClassId} {q : Nat} {u : Nat → Nat} {v : zQS} : ∀ {L : List ((Nat → Nat) × zQS)}, hlook L q = some (u, v) → u 200 = q ∧ ∃ A B, wDh ct L = A ++ (wQ u ct v ++ B) ∧ ∀ v2, wDh ct (hput L q v2) = A ++ (wQ u ct v2 ++ B)
  | [], h => by cases h
  | x :: L, h => by
    unfold hlook at h
    split at h
    · rename_i e
      cases h
      exact ⟨e, [], wDh ct L, rfl, fun v2 => by
        unfold hput
        rw [if_pos e]
        rfl⟩
    · rename_i e
      obtain ⟨e0, A, B, e1, e2⟩ := wDh_at (ct := ct) h
      exact ⟨e0, wQ x.1 ct x.2 ++ A, B, by show wQ x.1 ct x.2 ++ wDh ct L = _; rw [e1, List.append_assoc], fun v2 => by
        unfold hput
        rw [if_neg e]
        show wQ x.1 ct x.2 ++ wDh ct (hput L q v2) = _
        rw [e2, List.append_assoc]⟩
def pok (L : List (Nat × zPS)) (x : Option Nat) : Bool := match x with
  | none => true
  | some a => (plook L a).isSome
section ZS3
variable {p : Program} {l : Launch} {e : Env} {R : Room} {s : State} {m : MethodId} {args : Array Value} {below : List Frame} {meth : Method} {c : Code} {Q : State → Prop} {A : Nat → Prop} {G : va_G} {ct : Nat → ClassId} {nL cells slots : Nat} {cc : ByteArray} {own : String} {Cs : List va_W} {lv : List (Nat × Value)} {pc : Nat} {st : List Value}
theorem pcast {v : zPS} (hts : ∀ w ∈ wsL_law, w.before args s = true) (hK : va_K G vwCl (zty ct) s) : ∃ r : vw_C, vwCl[pcls v.1]? = some r ∧ ∀ comp c0 : ClassId, s.vm.findClass "MoreStory$Parent" = some comp → s.vm.findClass r.1 = some c0 → s.vm.assignable c0 comp = true := by
  have go : ∀ (R0 : String), Cond.superclass R0 RX4 ∈ wsL_law → ∀ comp c0 : ClassId, s.vm.findClass "MoreStory$Parent" = some comp → s.vm.findClass R0 = some c0 → s.vm.assignable c0 comp = true := by
    intro R0 hw comp c0 h1 h2
    obtain ⟨p1, k1, kp, hp, hk, hkp, hs, ho1, ho2, -⟩ := Cond.superclass_spec h2 (hts _ hw)
    have e1 : p1 = comp := Option.some.inj (hp.symm.trans h1)
    subst e1
    have hlt : c0 < s.vm.classes.size := (Array.getElem?_eq_some_iff.mp hk).1
    obtain ⟨n, hn⟩ : ∃ n, s.vm.classes.size = n + 1 := ⟨s.vm.classes.size - 1, (Nat.sub_add_cancel (Nat.zero_lt_of_lt hlt)).symm⟩
    obtain ⟨p9, k9, kp9, -, hk9, -, -, -, -, hni⟩ := Cond.superclass_spec hp (hts _ wd_53_7)
    have e9 : k9 = kp := Option.some.inj (hk9.symm.trans hkp)
    subst e9
    simp [Vm.assignable, Vm.assignableAux, hk, hkp, ho1, ho2, Vm.isSubclass, Vm.isSubclassAux, hn, hs, hni]
  have go2 : ∀ (R0 R1 : String), Cond.superclass R0 R1 ∈ wsL_law → Cond.superclass R1 RX4 ∈ wsL_law → ∀ comp c0 : ClassId, s.vm.findClass "MoreStory$Parent" = some comp → s.vm.findClass R0 = some c0 → s.vm.assignable c0 comp = true := by
    intro R0 R1 hw hw2 comp c0 h1 h2
    obtain ⟨p1, k1, kp, hp, hk, hkp, hs, ho1, ho2, -⟩ := Cond.superclass_spec h2 (hts _ hw)
    obtain ⟨p2, k2, kp2, hp2, hk2, hkp2, hs2, ho3, ho4, -⟩ := Cond.superclass_spec hp (hts _ hw2)
    have e1 : p2 = comp := Option.some.inj (hp2.symm.trans h1)
    subst e1
    by_cases hne : c0 = p1
    · subst hne
      have q1 := Option.some.inj (hk.symm.trans hk2)
      subst q1
      have q2 : c0 = p2 := Option.some.inj (hs.symm.trans hs2)
      subst q2
      simp [Vm.assignable, Vm.assignableAux, hk, ho1, Vm.isSubclass, Vm.isSubclassAux]
    have hl1 : c0 < s.vm.classes.size := (Array.getElem?_eq_some_iff.mp hk).1
    have hl2 : p1 < s.vm.classes.size := (Array.getElem?_eq_some_iff.mp hk2).1
    have h8 : 2 ≤ s.vm.classes.size := by
      have g1 : (c0 : Nat) < s.vm.classes.size := hl1
      have g2 : (p1 : Nat) < s.vm.classes.size := hl2
      have g3 : ¬ (c0 : Nat) = p1 := hne
      generalize s.vm.classes.size = z at g1 g2 ⊢
      rcases Nat.lt_or_gt_of_ne g3 with g | g
      · exact Nat.lt_of_le_of_lt (Nat.succ_le_of_lt (Nat.lt_of_le_of_lt (Nat.zero_le _) g)) g2
      · exact Nat.lt_of_le_of_lt (Nat.succ_le_of_lt (Nat.lt_of_le_of_lt (Nat.zero_le _) g)) g1
    obtain ⟨n, hn⟩ : ∃ n, s.vm.classes.size = n + 2 := ⟨s.vm.classes.size - 2, (Nat.sub_add_cancel h8).symm⟩
    obtain ⟨p9, k9, kp9, -, hk9, -, -, -, -, hni⟩ := Cond.superclass_spec hp2 (hts _ wd_53_7)
    have e9 : k9 = kp2 := Option.some.inj (hk9.symm.trans hkp2)
    subst e9
    simp [Vm.assignable, Vm.assignableAux, hk, hkp2, ho1, ho4, Vm.isSubclass, Vm.isSubclassAux, hn, hs, hk2, hs2, hni]
  rcases pcls_cases v.1 with h | h | h | h | h | h | h <;> rw [h]
  · exact ⟨_, rfl, go RX6 wd_13_4⟩
  · exact ⟨_, rfl, go RX7 wd_12_9⟩
  · exact ⟨_, rfl, go RX8 wd_48_13⟩
  · exact ⟨_, rfl, go2 RX3 RX6 wd_12_23 wd_13_4⟩
  · exact ⟨_, rfl, go2 RX0 RX7 wd_12_2 wd_12_9⟩
  · exact ⟨_, rfl, go2 RX9 RX8 wd_14_2 wd_48_13⟩
  · refine ⟨_, rfl, fun comp c0 h1 h2 => ?_⟩
    have h3 : comp = c0 := Option.some.inj (h1.symm.trans h2)
    subst h3
    have h4 := (hK.1 4 _ rfl).2
    have h5 : G.1 4 = comp := Option.some.inj (h4.1.symm.trans h2)
    rw [h5] at h4
    exact va_assign h4
theorem sH_3 (E : zE p s m args meth c A G ct nL cc own) {i iD g : Nat} {L : List (Nat × zPS)} {a : Nat → Nat} {S S1 : zHS} {x : Option Nat} {y : Int32} (hi : Cs[i]? = some (wH a ct S)) (hiD : Cs[iD]? = some (wDp g L)) (hok : pok L x = true) (hin : ¬ (y < 0 ∨ 4 ≤ y.toNatClampNeg)) (e1 : S1 = hSP S (va_up S.2.2.1 y.toNatClampNeg x)) (hdg : decode cc pc = .ok (.aastore, 1)) (k : zJ p l e R s m args below meth c Q A G nL cells slots (Cs.set i (wH a ct S1)) lv (pc + 1) st) : zJ p l e R s m args below meth c Q A G nL cells slots Cs lv pc (va_rf x :: .int y :: .ref (a 3) :: st) := by
  subst e1
  intro H locs ls hP hD hS hl
  obtain ⟨q0, h0, h1⟩ := zfl_cell (j := 4) hi rfl
  cases x with
  | none =>
    refine va_astqN E.1 E.2.1 E.2.2.2.2.2.1 hP hD hS q0 3 h0 rfl hin hdg (fun H1 locs1 hP1 hD1 hS1 => ?_)
    rw [h1] at hP1 hD1
    exact k H1 locs1 ls hP1 hD1 hS1 hl
  | some q =>
    obtain ⟨v, hv⟩ := Option.isSome_iff_exists.mp hok
    obtain ⟨DA, DB, eD⟩ := wDp_at (g := g) hv
    have hm : (q, Sum.inr (pcls v.1, [.int v.1, .int v.2.1, .int v.2.2, .ref g])) ∈ zfl Cs := zfl_mem.mpr ⟨iD, _, hiD, by rw [eD]; simp [wPa]⟩
    obtain ⟨k9, hk9⟩ := List.getElem?_of_mem hm
    obtain ⟨r, hr1, hr2⟩ := pcast (v := v) E.2.2.2.2.1 E.2.2.2.2.2.1
    refine va_astqM E.1 E.2.1 E.2.2.2.2.2.1 hP hD hS q0 3 h0 rfl (va_rAny E.2.2.2.2.2.1 hP hk9 hr1 hr2) hin hdg (fun H1 locs1 hP1 hD1 hS1 => ?_)
    rw [h1] at hP1 hD1
    exact k H1 locs1 ls hP1 hD1 hS1 hl
end ZS3
theorem zfl_split {Cs Cs2 : List va_W} {w a b c : va_W} (h : w = a ++ (b ++ c)) : zfl (Cs ++ w :: Cs2) = zfl (Cs ++ a :: b :: c :: Cs2) := by
  subst h
  simp [zfl]
