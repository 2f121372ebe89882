/-! methods that make cells: what comes back is said by a predicate -/
def zNst (_ : Nat → Prop) (U : State) : Prop := va_Nw (.methodLinkNest RX11 11 yX1_init "MoreStory") U ∧ va_Nw (.methodLinkNest RX11 23 yX10_init "MoreStory") U ∧ va_Nw (.methodLinkNest RX10 11 yX1_init "MoreStory") U ∧ va_Nw (.methodLinkNest RX11 30 yX5_init "MoreStory") U ∧ va_AO "MoreStory$Parent" U ∧ (Cond.arrayOver (.array .long)).before #[] U = true
def zQX (G : va_G) (ct : Nat → ClassId) (B : Option Value → List va_W → Prop) (A : Nat → Prop) : Array Value → State → Outcome → State → Prop := fun _ st o t => (∃ v C1, B v C1 ∧ zPost G ct v C1 A o t) ∧ va_F A st t
def zCX (N : (Nat → Prop) → State → Prop) (l : Launch) (y : MethodName) (cc : ByteArray) (maxL : Nat) (ret : Option FieldType) (rm : Room) (G : va_G) (ct : Nat → ClassId) (as : List Value) (Cs : List va_W) (B : Option Value → List va_W → Prop) (mc ms : Nat) : Prop := ∀ sz : Nat, Met l y (Cond.code y cc maxL ret :: wsL_law) rm (va_Pc as (fun U => zPre G ct Cs sz U ∧ N (va_A (zfl Cs) sz) U)) (zQX G ct B (va_A (zfl Cs) sz)) mc ms (va_A (zfl Cs) sz)
def zBl (N : (Nat → Prop) → State → Prop) : Prop := ∀ (A : Nat → Prop) (a : Array Value) (U : State) (g : JFrame) (mk : MethodId), N A U → N A (U.calling g mk a)
theorem zBl_tt : zBl (fun _ _ => True) := fun _ _ _ _ _ _ => trivial
theorem zBl_nst : zBl zNst := fun A a U g mk h => by
  have hv : U.vm = (U.calling g mk a).vm := rfl
  obtain ⟨h1, h2, h3, h4, h5, h6⟩ := h
  refine ⟨h1.same rfl hv, h2.same rfl hv, h3.same rfl hv, h4.same rfl hv, h5.moved (by rw [← hv]; exact Vm.Alike.refl _), ?_⟩
  first
    | exact h6
    | (simp only [Cond.before, Cond.holds, Cond.value] at h6 ⊢; exact h6)
theorem zArrOver {u U : State} {ty : FieldType} (hvm : u.vm.Alike U.vm) (h : (Cond.arrayOver (.array ty)).before #[] u = true) : (Cond.arrayOver (.array ty)).before #[] U = true := by
  have e := Cond.arrayOver_setVmC (args := #[]) (s := u) (vm' := U.vm) hvm (.array ty)
  rw [h] at e
  have e2 : (Cond.arrayOver (.array ty)).before #[] (u.setVm U.vm) = (Cond.arrayOver (.array ty)).before #[] U := by
    first
      | rfl
      | (simp only [Cond.before, Cond.holds, Cond.value, State.vm_setVm]; rfl)
      | (simp only [Cond.before, Cond.holds, Cond.value, State.vm_setVm]; congr)
  rw [← e2, e]
theorem zNst.go {A B : Nat → Prop} {s U : State} (hW : s.WarmedH U.vm) (h : zNst A s) : zNst B U := ⟨h.1.warmM hW, h.2.1.warmM hW, h.2.2.1.warmM hW, h.2.2.2.1.warmM hW, h.2.2.2.2.1.moved hW.alike, zArrOver hW.alike h.2.2.2.2.2⟩
theorem zX_blind {N : (Nat → Prop) → State → Prop} (hN : zBl N) {G : va_G} {ct : Nat → ClassId} {Cs : List va_W} {sz : Nat} {as : List Value} : FrameBlind (va_Pc as (fun U => zPre G ct Cs sz U ∧ N (va_A (zfl Cs) sz) U)) := fun a U g mk q => by
  obtain ⟨q0, ⟨q1, qP, qK, qD⟩, qE⟩ := q
  exact ⟨q0, ⟨q1, qP, va_K.moved (u := U) (U := U.calling g mk a) (Vm.Alike.refl U.vm) qK, qD⟩, hN _ a U g mk qE⟩
theorem z_enterX {N : (Nat → Prop) → State → Prop} {l : Launch} {y : MethodName} {cc : ByteArray} {maxL : Nat} {ret : Option FieldType} {rm : Room} {G : va_G} {ct : Nat → ClassId} {as : List Value} {Cs : List va_W} {B : Option Value → List va_W → Prop} {mc ms : Nat} {own : String} {lv : List (Nat × Value)} (hy : plainName y.cls = true) (ho : y.cls = own) (hn : (lg_sl as).length ≤ maxL) (hlv : lv_args 0 as = lv)
    (h : ∀ (p : Program) (e : Env) (s : State) (m : MethodId) (args : Array Value) (below : List Frame) (meth : Method) (c : Code) (A : Nat → Prop), zE p s m args meth c A G ct maxL cc own → meth.sig.returnType = ret → meth.name = y.name → N A s → zJ p l e rm s m args below meth c (MQ below (zQX G ct B A) args s mc ms A) A G maxL 0 0 Cs lv 0 []) : zCX N l y cc maxL ret rm G ct as Cs B mc ms := by
  subst ho
  intro sz
  refine Met.ofW (cc := cc) (maxL := maxL) (ret := ret) hy rfl ?_
  intro p e s m args below meth c s₁ Bd hml hv
  obtain ⟨rfl, ⟨hsz, hP, hK, hD0⟩, hEnv⟩ := hv
  have hts := atoms_spec (ws := Cond.code y cc maxL ret :: wsL_law) Bd.pre
  have hown : s.vm.findClass y.cls = some m.cls := findClass_of_methodNamed Bd.named
  subst hsz
  have hA : ∀ q : Nat, s.heap.size ≤ q → va_A (zfl Cs) s.heap.size q := fun q h => Or.inr h
  have hl := lv_entry as (n := maxL) hn
  rw [lg_entry_eq]
  rw [hlv] at hl
  exact h p e s m as.toArray below meth c _ ⟨Bd.exec, Bd.bytes, hml, hown, fun w hw => hts w (List.mem_cons_of_mem _ hw), hK, hA, Bd.notSynchronized⟩ Bd.returns (name_of_methodNamed Bd.named Bd.method).1 hEnv s.heap [] _ hP hD0.self va_S.rf hl
section ZMK
variable {p : Program} {l : Launch} {e : Env} {R : Room} {s : State} {m : MethodId} {args : Array Value} {below : List Frame} {meth : Method} {c : Code} {Q : State → Prop} {A : Nat → Prop} {G : va_G} {ct : Nat → ClassId} {nL cells slots : Nat} {cc : ByteArray} {own : String} {Cs Cc C2 : List va_W} {lv : List (Nat × Value)} {pc : Nat} {st st0 : List Value} {is : List Nat} {mc ms : Nat}
theorem z_cells {c2 s2 : Nat} (h1 : cells = c2) (h2 : slots = s2) (k : zJ p l e R s m args below meth c Q A G nL c2 s2 Cs lv pc st) : zJ p l e R s m args below meth c Q A G nL cells slots Cs lv pc st := by subst h1; subst h2; exact k
theorem z_vretX (E : zE p s m args meth c A G ct nL cc own) {B : Option Value → List va_W → Prop} (hr : meth.sig.returnType = none) (hB : B none Cs) (hdg : decode cc pc = .ok (.return_, 1)) : zJ p l e R s m args below meth c (MQ below (zQX G ct B A) args s cells slots A) A G nL cells slots Cs lv pc [] := by
  intro H locs ls hP hD hS hl
  exact W.vret E.1 E.2.1 hr (fun t ht hW => ⟨⟨none, Cs, hB, rfl, by rw [ht]; exact hP, va_K.moved hW.alike E.2.2.2.2.2.1, hD⟩, hS.F ht⟩) hS.2.2 hdg E.2.2.2.2.2.2.2
theorem z_iretX (E : zE p s m args meth c A G ct nL cc own) {B : Option Value → List va_W → Prop} {v : Int32} (hr : meth.sig.returnType = some .int) (hB : B (some (.int v)) Cs) (hdg : decode cc pc = .ok (.ireturn, 1)) : zJ p l e R s m args below meth c (MQ below (zQX G ct B A) args s cells slots A) A G nL cells slots Cs lv pc [.int v] := by
  intro H locs ls hP hD hS hl
  exact W.iret (v := v) E.1 E.2.1 hr (fun t ht hW => ⟨⟨_, Cs, hB, rfl, by rw [ht]; exact hP, va_K.moved hW.alike E.2.2.2.2.2.1, hD⟩, hS.F ht⟩) hS.2.2 hdg E.2.2.2.2.2.2.2
theorem z_aretX (E : zE p s m args meth c A G ct nL cc own) {B : Option Value → List va_W → Prop} {a : Nat} {n : String} (hr : meth.sig.returnType = some (.object n)) (hB : B (some (.ref a)) Cs) (hdg : decode cc pc = .ok (.areturn, 1)) : zJ p l e R s m args below meth c (MQ below (zQX G ct B A) args s cells slots A) A G nL cells slots Cs lv pc [.ref a] := by
  intro H locs ls hP hD hS hl
  exact W.aret (v := .ref a) E.1 E.2.1 hr (Or.inl ⟨n, rfl⟩) (Or.inr ⟨a, rfl⟩) (fun t ht hW => ⟨⟨_, Cs, hB, rfl, by rw [ht]; exact hP, va_K.moved hW.alike E.2.2.2.2.2.1, hD⟩, hS.F ht⟩) hS.2.2 hdg E.2.2.2.2.2.2.2
theorem z_objInit (E : zE p s m args meth c A G ct nL cc own) {a idx : Nat} (hlink : Cond.methodLink own idx objectInit ∈ wsL_law) (hR : 1 ≤ R.frames ∧ (st.map fun v => v.category).sum + 12 ≤ R.locals) (hdg : decode cc pc = .ok (.invokespecial idx, 3)) (k : zJ p l e R s m args below meth c Q A G nL cells slots Cs lv (pc + 3) st) : zJ p l e R s m args below meth c Q A G nL cells slots Cs lv pc (.ref a :: st) := by
  intro H locs ls hP hD hS hl
  have hk := k H locs ls hP hD hS hl
  refine W.objInit E.1 E.2.1 E.2.2.2.1 (E.2.2.2.2.1 _ hlink) (E.2.2.2.2.1 _ wd_1_11) (E.2.2.2.2.1 _ wd_1_12) (g := F0 m pc ls (.ref a :: st)) rfl (hl.1.trans E.2.2.1.symm) rfl hdg hR.1 (by show 2 * 0 + _ + 12 ≤ _; omega) hk
theorem zfl_snoc {x : Nat × va_E} : zfl Cs ++ [x] = zfl (Cs ++ [[x]]) := by simp [zfl]
theorem z_new (E : zE p s m args meth c A G ct nL cc own) {C : String} {T : u_T} {N ci index : Nat} {fs : List Value} (hin : ∀ w ∈ u_ws C T N, w ∈ wsL_law) (ty : Nat → FieldType) (hty : ∀ k, k < N → parseFieldDescriptor (T k).2.2.1 = some (ty k)) (hcl : Cond.classLink own index C ∈ wsL_law) (hinst : Cond.instantiable C N ∈ wsL_law) (hini : Cond.initialized C ∈ wsL_law) (hc : vwCl[ci]? = some (C, T, N)) (hfs : ∀ j, j < N → defaultValue (ty j) = vp_V fs j) (hcells : cells + 1 ≤ R.cells) (hslots : slots + N ≤ R.slots) (hdg : decode cc pc = .ok (.new index, 3))
    (k : ∀ q : Nat, zJ p l e R s m args below meth c Q A G nL (cells + 1) (slots + N) (Cs ++ [[(q, .inr (ci, fs))]]) lv (pc + 3) (.ref q :: st)) : zJ p l e R s m args below meth c Q A G nL cells slots Cs lv pc st := by
  intro H locs ls hP hD hS hl
  refine va_new E.1 E.2.1 E.2.2.2.2.1 hin ty hty E.2.2.2.1 (E.2.2.2.2.1 _ hcl) (E.2.2.2.2.1 _ hinst) (E.2.2.2.2.1 _ hini) E.2.2.2.2.2.1 hP hD hS E.2.2.2.2.2.2.1 hc hfs hcells hslots hdg (fun q H1 hP1 hD1 hS1 => ?_)
  rw [zfl_snoc] at hP1 hD1
  exact k q H1 locs ls hP1 hD1 hS1 hl
theorem zK_one {tys : List (ClassId × FieldType)} {a b i j : Nat} {c1 c2 : ClassId} {ty : FieldType} (hK : va_K G vwCl tys s) (h1 : tys[i]? = some (c1, ty)) (h2 : tys[j]? = some (c2, ty)) : c1 = c2 := by
  have g1 := (hK.2 i _ h1).2
  have g2 := (hK.2 j _ h2).2
  cases ty with
  | object C =>
    obtain ⟨-, -, -, -, -, e1⟩ := g1
    obtain ⟨-, -, -, -, -, e2⟩ := g2
    exact Option.some.inj (e1.symm.trans e2)
  | _ => exact Option.some.inj (g1.symm.trans g2)
theorem z_newi (E : zE p s m args meth c A G ct nL cc own) {n : Int32} {N' : Nat} (hn : ¬ n < 0) (hN : n.toNatClampNeg = N') (hbytes : N' * 4 ≤ 536870912) (hcells : cells + 1 ≤ R.cells) (hslots : slots + N' ≤ R.slots) (hdg : decode cc pc = .ok (.newarray .int, 2))
    (k : ∀ q : Nat, zJ p l e R s m args below meth c Q A G nL (cells + 1) (slots + N') (Cs ++ [[(q, .inl (ct 0, N', .inl (fun _ => 0)))]]) lv (pc + 2) (.ref q :: st)) : zJ p l e R s m args below meth c Q A G nL cells slots Cs lv pc (.int n :: st) := by
  intro H locs ls hP hD hS hl
  refine va_newa (atype := .int) (ty := .int) (a0 := (N', .inl (fun _ => 0))) E.1 E.2.1 (E.2.2.2.2.1 _ wd_2_5) rfl E.2.2.2.2.2.1 hP hD hS E.2.2.2.2.2.2.1 (fun _ => rfl) hn hN hbytes hcells hslots hdg (fun q cA H1 hK1 hP1 hD1 hS1 => ?_)
  have e1 : ct 0 = cA := zK_one (a := 0) (b := 0) (i := 0) (j := 5) hK1 rfl rfl
  subst e1
  rw [zfl_snoc] at hP1 hD1
  exact k q H1 locs ls hP1 hD1 hS1 hl
theorem z_newl (E : zE p s m args meth c A G ct nL cc own) {n : Int32} {N' : Nat} (hn : ¬ n < 0) (hN : n.toNatClampNeg = N') (hbytes : N' * 8 ≤ 536870912) (hcells : cells + 1 ≤ R.cells) (hslots : slots + N' ≤ R.slots) (hdg : decode cc pc = .ok (.newarray .long, 2))
    (k : ∀ q : Nat, zJ p l e R s m args below meth c Q A G nL (cells + 1) (slots + N') (Cs ++ [[(q, .inl (ct 1, N', .inr (.inl (fun _ => 0))))]]) lv (pc + 2) (.ref q :: st)) : zJ p l e R s m args below meth c Q A G nL cells slots Cs lv pc (.int n :: st) := by
  intro H locs ls hP hD hS hl
  refine va_newa (atype := .long) (ty := .long) (a0 := (N', .inr (.inl (fun _ => 0)))) E.1 E.2.1 (E.2.2.2.2.1 _ wd_2_3) rfl E.2.2.2.2.2.1 hP hD hS E.2.2.2.2.2.2.1 (fun _ => rfl) hn hN hbytes hcells hslots hdg (fun q cA H1 hK1 hP1 hD1 hS1 => ?_)
  have e1 : ct 1 = cA := zK_one (a := 0) (b := 0) (i := 1) (j := 5) hK1 rfl rfl
  subst e1
  rw [zfl_snoc] at hP1 hD1
  exact k q H1 locs ls hP1 hD1 hS1 hl
theorem z_newz (E : zE p s m args meth c A G ct nL cc own) {n : Int32} {N' : Nat} (hn : ¬ n < 0) (hN : n.toNatClampNeg = N') (hbytes : N' * 1 ≤ 536870912) (hcells : cells + 1 ≤ R.cells) (hslots : slots + N' ≤ R.slots) (hdg : decode cc pc = .ok (.newarray .boolean, 2))
    (k : ∀ q : Nat, zJ p l e R s m args below meth c Q A G nL (cells + 1) (slots + N') (Cs ++ [[(q, .inl (ct 2, N', .inl (fun _ => 0)))]]) lv (pc + 2) (.ref q :: st)) : zJ p l e R s m args below meth c Q A G nL cells slots Cs lv pc (.int n :: st) := by
  intro H locs ls hP hD hS hl
  refine va_newa (atype := .boolean) (ty := .boolean) (a0 := (N', .inl (fun _ => 0))) E.1 E.2.1 (E.2.2.2.2.1 _ wd_2_20) rfl E.2.2.2.2.2.1 hP hD hS E.2.2.2.2.2.2.1 (fun _ => rfl) hn hN hbytes hcells hslots hdg (fun q cA H1 hK1 hP1 hD1 hS1 => ?_)
  have e1 : ct 2 = cA := zK_one (a := 0) (b := 0) (i := 2) (j := 5) hK1 rfl rfl
  subst e1
  rw [zfl_snoc] at hP1 hD1
  exact k q H1 locs ls hP1 hD1 hS1 hl

theorem z_newq (E : zE p s m args meth c A G ct nL cc own) {index : Nat} (hcl : Cond.classLink own index "MoreStory$Parent" ∈ wsL_law) (hover : va_AO "MoreStory$Parent" s) {n : Int32} {N' : Nat} (hn : ¬ n < 0) (hN : n.toNatClampNeg = N') (hbytes : N' * 4 ≤ 536870912) (hcells : cells + 1 ≤ R.cells) (hslots : slots + N' ≤ R.slots) (hdg : decode cc pc = .ok (.anewarray index, 3))
    (k : ∀ q : Nat, zJ p l e R s m args below meth c Q A G nL (cells + 1) (slots + N') (Cs ++ [[(q, .inl (ct 3, N', .inr (.inr (.inr (.inr (fun _ => none))))))]]) lv (pc + 3) (.ref q :: st)) : zJ p l e R s m args below meth c Q A G nL cells slots Cs lv pc (.int n :: st) := by
  intro H locs ls hP hD hS hl
  refine va_newq E.1 E.2.1 E.2.2.2.1 (E.2.2.2.2.1 _ hcl) hover E.2.2.2.2.2.1 hP hD hS E.2.2.2.2.2.2.1 hn hN hbytes hcells hslots hdg (fun q cA H1 hK1 hP1 hD1 hS1 => ?_)
  have e1 : ct 3 = cA := zK_one (a := 0) (b := 0) (i := 3) (j := 5) hK1 rfl rfl
  subst e1
  rw [zfl_snoc] at hP1 hD1
  exact k q H1 locs ls hP1 hD1 hS1 hl
theorem z_mna (E : zE p s m args meth c A G ct nL cc own) {index : Nat} (hcl : Cond.classLink own index "[[J" ∈ wsL_law) (hover : (Cond.arrayOver (.array .long)).before #[] s = true) (hcells : cells + 7 ≤ R.cells) (hslots : slots + 366 ≤ R.slots) (hdg : decode cc pc = .ok (.multianewarray index 2, 4))
    (k : ∀ r : Nat → Nat, zJ p l e R s m args below meth c Q A G nL (cells + 7) (slots + 366) (Cs ++ [wV r ct (fun _ _ => 0)]) lv (pc + 4) (.ref (r 6) :: st)) : zJ p l e R s m args below meth c Q A G nL cells slots Cs lv pc (.int 60 :: .int 6 :: st) := by
  intro H locs ls hP hD hS hl
  have hz : ∀ c : ClassId, Jvm.Free.Multi.innerC c 60 (defaultValue .long) = vp_cell c (60, .inr (.inl (fun _ => 0))) := fun c => by
    rw [vp_cell_l]
    unfold Jvm.Free.Multi.innerC
    rfl
  refine va_mna (X := zfl Cs) (L := []) (f := fun _ => .inr (0, [])) (ty := .long) (cy := ct 1) (N' := 6) (K' := 60) (z := (60, .inr (.inl (fun _ => 0)))) E.1 E.2.1 E.2.2.2.1 (E.2.2.2.2.1 _ hcl) hover (E.2.2.2.2.1 _ wd_2_3) ((E.2.2.2.2.2.1.2 1 _ rfl).2) E.2.2.2.2.2.1 (by rw [show va_pl [] (fun _ => (.inr (0, []) : va_E)) = [] from rfl, List.append_nil]; exact hP) (by rw [show va_pl [] (fun _ => (.inr (0, []) : va_E)) = [] from rfl, List.append_nil]; exact hD) hS E.2.2.2.2.2.2.1 (by decide) (by decide) (by decide) (by decide) (by decide) (by decide) (by decide) rfl rfl hcells hslots hz hdg (fun q r cA H1 hinj hnL hK1 hP1 hD1 hS1 => ?_)
  have e1 : ct 4 = cA := zK_one (a := 0) (b := 0) (i := 4) (j := 5) hK1 rfl rfl
  subst e1
  have hw : ((zfl Cs ++ [(q, .inl (ct 4, 6, .inr (.inr (.inr (.inr (fun i => if i < 6 then some (r i) else none))))))]) ++ va_pl ([] ++ (List.range 6).map r) (vr_up (fun _ => .inr (0, [])) ((List.range 6).map r) (.inl (ct 1, 60, .inr (.inl (fun _ => 0)))))) = zfl (Cs ++ [wV (fun n => if n = 6 then q else r n) ct (fun _ _ => 0)]) := by
    rw [← vr_rows (fun a _ h => absurd h List.not_mem_nil)]
    have hf : (fun i => if i < 6 then some (r i) else none) = (fun i => if i < 6 then some (if i = 6 then q else r i) else none) := by
      funext i
      by_cases h : i < 6
      · rw [if_pos h, if_pos h, if_neg (by omega)]
      · rw [if_neg h, if_neg h]
    rw [hf]
    simp [zfl, wV, va_pl, List.range, List.range.loop]
  rw [hw] at hP1 hD1
  exact k _ H1 locs ls hP1 hD1 hS1 hl
/-- a call of a method that makes cells: a constructor, by its plain link -/
theorem z_backX (E : zE p s m args meth c A G ct nL cc own) {B : Option Value → List va_W → Prop} {Qa : State → Outcome → State → Prop} {H : Heap} {locs : List Loc} {ls : Array Slot} (hP : va_P G vwCl (zfl Cs) H) (hD : va_D A (zfl Cs)) (hS : va_S A s.heap H locs) (hl : lv_has ls nL lv) (hnd : va_nd is = true) (his : is.map (fun i => Cs[i]?) = Cc.map some) (hlen : ∀ v C1, B v C1 → is.length = C1.length)
    (hr : va_Run p l e R s m args below meth c H locs cells slots mc ms (F0 m pc ls st0) st Qa (va_A (zfl Cc) H.size)) (hq : ∀ st₀ v' t, st₀.heap = H → Qa st₀ (.returned v') t → (∃ v C1, B v C1 ∧ zPost G ct v C1 (va_A (zfl Cc) H.size) (.returned v') t) ∧ va_F (va_A (zfl Cc) H.size) st₀ t)
    (k : ∀ v C1, B v C1 → zJ p l e R s m args below meth c Q A G nL (cells + mc) (slots + ms) (zset Cs is C1) lv (pc + 3) (v.toList ++ st)) : W p l e R s m args below meth c H locs cells slots Q (F0 m pc ls st0) := by
  intro T hT X
  obtain ⟨v', st₀, t, T', L, h0, X', hL, e1, e2, hqa, st9⟩ := hr T hT X
  obtain ⟨⟨v, C1, hB, hv, hP1, hK1, hD1⟩, hz, hk⟩ := hq st₀ v' t h0 hqa
  cases hv
  rw [h0] at hz hk
  have hF := zfreeF hD hS E.2.2.2.2.2.2.1 his
  obtain ⟨hP2, hD2⟩ := zjoin hP hD hnd his (hlen _ _ hB) hk hF hP1 hD1
  have hS2 : va_S A s.heap t.heap (locs ++ L) := ⟨Nat.le_trans hS.1 hz, fun q h1 h2 => by rw [hk q (Nat.lt_of_lt_of_le h1 hS.1) (fun z => h2 (hF q z))]; exact hS.2.1 q h1 h2, fun q hq => by
    rcases List.mem_append.mp hq with h | h
    · exact hS.2.2 q h
    · exact hF _ (hL q h)⟩
  obtain ⟨t2, a1, b1⟩ := k _ C1 hB t.heap (locs ++ L) ls hP2 hD2 hS2 hl T' e1 X'
  exact ⟨t2, st9 t2 a1, b1⟩
theorem z_callI (E : zE p s m args meth c A G ct nL cc own) {N : (Nat → Prop) → State → Prop} (hbl : zBl N) (hN : ∀ (B : Nat → Prop) (U : State), s.WarmedH U.vm → N B U) {B : Option Value → List va_W → Prop} {y : MethodName} {bytes : ByteArray} {maxL n index b : Nat} {rm' : Room} {As : List Value} (hC : zCX N l y bytes maxL none rm' G ct (.ref b :: As) Cc B mc ms) (h1 : Cond.initialized y.cls ∈ wsL_law) (h2 : Cond.methodLink own index y ∈ wsL_law) (h3 : Cond.instanceMethod y ∈ wsL_law) (h4 : Cond.code y bytes maxL none ∈ wsL_law) (hy1 : y.name = "<init>") (hd : y.cls ≠ "java/lang/invoke/MethodHandle" ∧ y.cls ≠ "java/lang/invoke/VarHandle" ∧ (parseMethodDescriptor y.desc).map (fun d => d.parameters.length) = some n) (hR : rm'.frames + 1 ≤ R.frames ∧ 8 + (maxL + 11) + rm'.locals ≤ R.locals) (hrc : rm'.cells = mc) (hrs : rm'.slots = ms) (hroom : cells + mc ≤ R.cells ∧ slots + ms ≤ R.slots) (hn : As.length = n) (hnd : va_nd is = true) (his : is.map (fun i => Cs[i]?) = Cc.map some) (hlen : ∀ v C1, B v C1 → is.length = C1.length) (hst : st0 = As.reverse ++ .ref b :: st) (hcat : (st.map fun v => v.category).sum ≤ 8) (hdg : decode cc pc = .ok (.invokespecial index, 3))
    (k : ∀ v C1, B v C1 → zJ p l e R s m args below meth c Q A G nL (cells + mc) (slots + ms) (zset Cs is C1) lv (pc + 3) (v.toList ++ st)) : zJ p l e R s m args below meth c Q A G nL cells slots Cs lv pc st0 := by
  subst hst
  intro H locs ls hP hD hS hl
  have hPc := zsubP hP his
  have hDc := zsubD hD hnd his
  have hg : GoodIn wsL_law (Cond.code y bytes maxL none :: wsL_law) := zgood (ws := []) h4 (fun w h => absurd h List.not_mem_nil)
  exact z_backX E hP hD hS hl hnd his hlen (va_runI (As := As) (rest := st) ⟨E.1, E.2.1, E.2.2.1, E.2.2.2.1, E.2.2.2.2.1⟩ (hC H.size) (cwI n E.2.2.2.2.1 hg rfl hrc hrs (E.2.2.2.2.1 _ h1) (E.2.2.2.2.1 _ h2) (E.2.2.2.2.1 _ h3) hy1 hd hR) ⟨zX_blind hbl, fun U hU hW => ⟨rfl, ⟨by rw [hU], by rw [hU]; exact hPc, va_K.moved hW.alike E.2.2.2.2.2.1, hDc.weaken (fun _ _ _ _ => trivial)⟩, hN _ U hW⟩⟩ rfl hn hl.1 rfl (lv_room hcat) hdg hroom) (fun st₀ v' t _ h => h) k
/-- the same, a nest mate's private constructor -/
theorem z_callIN (E : zE p s m args meth c A G ct nL cc own) {N : (Nat → Prop) → State → Prop} (hbl : zBl N) (hN : ∀ (B : Nat → Prop) (U : State), s.WarmedH U.vm → N B U) {B : Option Value → List va_W → Prop} {y : MethodName} {host : String} {bytes : ByteArray} {maxL n index b : Nat} {rm' : Room} {As : List Value} (hC : zCX N l y bytes maxL none rm' G ct (.ref b :: As) Cc B mc ms) (h1 : Cond.initialized y.cls ∈ wsL_law) (h2 : va_Nw (.methodLinkNest own index y host) s) (h3 : Cond.instanceMethod y ∈ wsL_law) (h4 : Cond.code y bytes maxL none ∈ wsL_law) (hy1 : y.name = "<init>") (hd : y.cls ≠ "java/lang/invoke/MethodHandle" ∧ y.cls ≠ "java/lang/invoke/VarHandle" ∧ (parseMethodDescriptor y.desc).map (fun d => d.parameters.length) = some n) (hR : rm'.frames + 1 ≤ R.frames ∧ 8 + (maxL + 11) + rm'.locals ≤ R.locals) (hrc : rm'.cells = mc) (hrs : rm'.slots = ms) (hroom : cells + mc ≤ R.cells ∧ slots + ms ≤ R.slots) (hn : As.length = n) (hnd : va_nd is = true) (his : is.map (fun i => Cs[i]?) = Cc.map some) (hlen : ∀ v C1, B v C1 → is.length = C1.length) (hst : st0 = As.reverse ++ .ref b :: st) (hcat : (st.map fun v => v.category).sum ≤ 8) (hdg : decode cc pc = .ok (.invokespecial index, 3))
    (k : ∀ v C1, B v C1 → zJ p l e R s m args below meth c Q A G nL (cells + mc) (slots + ms) (zset Cs is C1) lv (pc + 3) (v.toList ++ st)) : zJ p l e R s m args below meth c Q A G nL cells slots Cs lv pc st0 := by
  subst hst
  intro H locs ls hP hD hS hl
  have hPc := zsubP hP his
  have hDc := zsubD hD hnd his
  have hg : GoodIn wsL_law (Cond.code y bytes maxL none :: wsL_law) := zgood (ws := []) h4 (fun w h => absurd h List.not_mem_nil)
  exact z_backX E hP hD hS hl hnd his hlen (va_runIN (host := host) (As := As) (rest := st) ⟨E.1, E.2.1, E.2.2.1, E.2.2.2.1, E.2.2.2.2.1⟩ (hC H.size) ⟨va_cnB n E.2.2.2.2.1 hg rfl hrc hrs h2 (E.2.2.2.2.1 _ h1) hd hR, hy1, E.2.2.2.2.1 _ h3⟩ ⟨zX_blind hbl, fun U hU hW => ⟨rfl, ⟨by rw [hU], by rw [hU]; exact hPc, va_K.moved hW.alike E.2.2.2.2.2.1, hDc.weaken (fun _ _ _ _ => trivial)⟩, hN _ U hW⟩⟩ rfl hn hl.1 rfl (lv_room hcat) hdg hroom) (fun st₀ v' t _ h => h) k
end ZMK
/-- addresses as a function: the object's at 200 -/
def zad (l : List Nat) (o : Nat) : Nat → Nat := fun n => if n = 200 then o else l.getD n 0
