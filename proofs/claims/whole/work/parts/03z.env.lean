/-! what lies outside every world: the String constants, statics -/
def sLen : List Nat := [16, 10, 6, 3]
def sByt : List (List Int32) := [[99, 97, 108, 109, 102, 117, 115, 115, 108, 97, 116, 101, 100, 101, 101, 112], [48, 49, 50, 51, 52, 53, 54, 55, 56, 57], [112, 107, 116, 99, 110, 104], [60, 61, 62]]
def zEnv (adK adV : Nat → Nat) (tA : Nat) (A : Nat → Prop) (U : State) (H : Heap) : Prop :=
  vk_S 4 sLen sByt adK adV A U H ∧ (vk_R RX5 58 "calmfusslatedeep" (adK 0) U ∧ vk_R RX5 66 "0123456789" (adK 1) U ∧ vk_R RX5 81 "pktcnh" (adK 2) U ∧ vk_R RX5 83 "<=>" (adK 3) U ∧ vk_R RX2 9 "pktcnh" (adK 2) U) ∧ va_Z "java/lang/String" "COMPACT_STRINGS" "Z" (.int 1) A U H ∧ va_Zq "jdk/internal/util/Preconditions" "SIOOBE_FORMATTER" "Ljava/util/function/BiFunction;" A U H ∧ va_Z "MoreStory" "ABOVE" "[I" (.ref tA) A U H ∧ va_T .int tA 7 (fun j => .int (([-1, 0, 0, 0, 1, 2, 3] : List Int32).getD j 0)) A U H
theorem zEnv.go {adK adV : Nat → Nat} {tA : Nat} {A B : Nat → Prop} {s U : State} {H : Heap} {locs : List Loc} (h : zEnv adK adV tA A s s.heap) (hW : s.WarmedH U.vm) (hS : va_S A s.heap H locs) (hAB : ∀ q, B q → A q) : zEnv adK adV tA B U H := by
  obtain ⟨h1, ⟨r1, r2, r3, r4, r5⟩, h2, h3, h4, h5⟩ := h
  exact ⟨((h1.kept hS.2.1).narrow hAB).moved hW.alike, ⟨r1.warm hW, r2.warm hW, r3.warm hW, r4.warm hW, r5.warm hW⟩, ((h2.kept hS.2.1).narrow hAB).moved hW.alike, ((h3.kept hS.2.1).narrow hAB).moved hW.alike, ((h4.kept hS.2.1).narrow hAB).moved hW.alike, ((h5.kept hS.2.1).narrow hAB).moved hW.alike⟩
theorem zEnv.same {adK adV : Nat → Nat} {tA : Nat} {A : Nat → Prop} {u U : State} {H : Heap} (hv : U.vm = u.vm) (h : zEnv adK adV tA A u H) : zEnv adK adV tA A U H := by
  obtain ⟨h1, ⟨r1, r2, r3, r4, r5⟩, h2, h3, h4, h5⟩ := h
  have ha : u.vm.Alike U.vm := by rw [hv]; exact Vm.Alike.refl _
  exact ⟨h1.moved ha, ⟨r1.same hv, r2.same hv, r3.same hv, r4.same hv, r5.same hv⟩, h2.moved ha, h3.moved ha, h4.moved ha, h5.moved ha⟩
def zPreE (adK adV : Nat → Nat) (tA : Nat) (G : va_G) (ct : Nat → ClassId) (Cs : List va_W) (sz : Nat) (U : State) : Prop := zPre G ct Cs sz U ∧ zEnv adK adV tA (va_A (zfl Cs) sz) U U.heap
def zCE (adK adV : Nat → Nat) (tA : Nat) (l : Launch) (y : MethodName) (cc : ByteArray) (maxL : Nat) (ret : Option FieldType) (rm : Room) (G : va_G) (ct : Nat → ClassId) (as : List Value) (Cs C1 : List va_W) (v : Option Value) (mc ms : Nat) : Prop := ∀ sz : Nat, Met l y (Cond.code y cc maxL ret :: wsL_law) rm (va_Pc as (zPreE adK adV tA G ct Cs sz)) (zQc G ct v C1 (va_A (zfl Cs) sz)) mc ms (va_A (zfl Cs) sz)
theorem zPreE_blind {adK adV : Nat → Nat} {tA : Nat} {G : va_G} {ct : Nat → ClassId} {Cs : List va_W} {sz : Nat} {as : List Value} : FrameBlind (va_Pc as (zPreE adK adV tA G ct Cs sz)) := fun a U g mk q => by
  obtain ⟨q0, ⟨q1, qP, qK, qD⟩, qE⟩ := q
  exact ⟨q0, ⟨q1, qP, va_K.moved (u := U) (U := U.calling g mk a) (Vm.Alike.refl U.vm) qK, qD⟩, zEnv.same (u := U) (U := U.calling g mk a) rfl qE⟩
theorem z_enterE {adK adV : Nat → Nat} {tA : Nat} {l : Launch} {y : MethodName} {cc : ByteArray} {maxL : Nat} {ret : Option FieldType} {rm : Room} {G : va_G} {ct : Nat → ClassId} {as : List Value} {Cs C1 : List va_W} {v : Option Value} {mc ms : Nat} {own : String} {lv : List (Nat × Value)} (hy : plainName y.cls = true) (ho : y.cls = own) (hn : (lg_sl as).length ≤ maxL) (hlv : lv_args 0 as = lv)
    (h : ∀ (p : Program) (e : Env) (s : State) (m : MethodId) (args : Array Value) (below : List Frame) (meth : Method) (c : Code) (A : Nat → Prop), zE p s m args meth c A G ct maxL cc own → meth.sig.returnType = ret → meth.name = y.name → zEnv adK adV tA A s s.heap → zJ p l e rm s m args below meth c (zQ G ct v C1 A below args s mc ms) A G maxL 0 0 Cs lv 0 []) : zCE adK adV tA l y cc maxL ret rm G ct as Cs C1 v mc ms := by
  subst ho
  intro sz
  refine Met.ofW (cc := cc) (maxL := maxL) (ret := ret) hy rfl ?_
  intro p e s m args below meth c s₁ B hml hv
  obtain ⟨rfl, ⟨hsz, hP, hK, hD0⟩, hEnv⟩ := hv
  have hts := atoms_spec (ws := Cond.code y cc maxL ret :: wsL_law) B.pre
  have hown : s.vm.findClass y.cls = some m.cls := findClass_of_methodNamed B.named
  subst hsz
  have hA : ∀ q : Nat, s.heap.size ≤ q → va_A (zfl Cs) s.heap.size q := fun q h => Or.inr h
  have hl := lv_entry as (n := maxL) hn
  rw [lg_entry_eq]
  rw [hlv] at hl
  exact h p e s m as.toArray below meth c _ ⟨B.exec, B.bytes, hml, hown, fun w hw => hts w (List.mem_cons_of_mem _ hw), hK, hA, B.notSynchronized⟩ B.returns (name_of_methodNamed B.named B.method).1 hEnv s.heap [] _ hP hD0.self va_S.rf hl
section ZEN
variable {p : Program} {l : Launch} {e : Env} {R : Room} {s : State} {m : MethodId} {args : Array Value} {below : List Frame} {meth : Method} {c : Code} {Q : State → Prop} {A : Nat → Prop} {G : va_G} {ct : Nat → ClassId} {nL cells slots : Nat} {cc : ByteArray} {own : String} {Cs Cc C1 C2 : List va_W} {lv : List (Nat × Value)} {pc : Nat} {st st0 : List Value} {is : List Nat} {v : Option Value} {mc ms : Nat} {adK adV : Nat → Nat} {tA : Nat}
theorem z_callVE (E : zE p s m args meth c A G ct nL cc own) (hEnv : zEnv adK adV tA A s s.heap) {y : MethodName} {C : String} {bytes : ByteArray} {maxL n index b : Nat} {ret : Option FieldType} {rm' : Room} {As st' : List Value} (hC : zCE adK adV tA l y bytes maxL ret rm' G ct (.ref b :: As) Cc C1 v 0 0) (hw : zWV C y bytes maxL ret n) (hlink : Cond.methodLink own index y ∈ wsL_law) (hR : rm'.frames + 1 ≤ R.frames ∧ 8 + (maxL + 11) + rm'.locals ≤ R.locals ∧ cells ≤ R.cells ∧ slots ≤ R.slots) (hrc : rm'.cells = 0) (hrs : rm'.slots = 0) (hn : As.length = n) (hnd : va_nd is = true) (his : is.map (fun i => Cs[i]?) = Cc.map some) (hlen : is.length = C1.length) (hrv : ∀ (H : Heap) (locs : List Loc), va_P G vwCl (zfl Cs) H → va_S A s.heap H locs → ∃ cellB : Cell, H[b]? = some cellB ∧ cellB.vm.isStatics = false ∧ s.vm.findClass C = some cellB.cls) (hst : st0 = As.reverse ++ .ref b :: st) (hcat : (st.map fun v => v.category).sum ≤ 8) (hdg : decode cc pc = .ok (.invokevirtual index, 3))
    (h2 : zset Cs is C1 = C2) (h3 : v.toList ++ st = st') (k : zJ p l e R s m args below meth c Q A G nL cells slots C2 lv (pc + 3) st') : zJ p l e R s m args below meth c Q A G nL cells slots Cs lv pc st0 := by
  subst hst
  subst h3
  intro H locs ls hP hD hS hl
  have hPc := zsubP hP his
  have hDc := zsubD hD hnd his
  have hF := zfreeF hD hS E.2.2.2.2.2.2.1 his
  have hg : GoodIn wsL_law (wsV own index C y (Cond.code y bytes maxL ret :: wsL_law)) := zgood hw.2.2.2.1 (fun w h => by
    simp only [List.mem_cons, List.not_mem_nil, or_false] at h
    rcases h with rfl | rfl | rfl | rfl
    · exact hlink
    · exact hw.1
    · exact hw.2.1
    · exact hw.2.2.1)
  exact z_back E hP hD hS hl hnd his hlen (va_runV (As := As) (rest := st) ⟨E.1, E.2.1, E.2.2.1, E.2.2.2.1, E.2.2.2.2.1⟩ (hC H.size) (cwV n E.2.2.2.2.1 hg rfl hrc hrs hw.2.2.2.2 ⟨hR.1, hR.2.1⟩) ⟨zPreE_blind, hrv H locs hP hS, fun U hU hW => ⟨rfl, ⟨by rw [hU], by rw [hU]; exact hPc, va_K.moved hW.alike E.2.2.2.2.2.1, hDc.weaken (fun _ _ _ _ => trivial)⟩, by rw [hU]; exact hEnv.go hW hS hF⟩⟩ rfl hn hl.1 rfl (lv_room hcat) hdg hR.2.2) (fun st₀ v' t _ h => h) h2 k
theorem z_callSE (E : zE p s m args meth c A G ct nL cc own) (hEnv : zEnv adK adV tA A s s.heap) {y : MethodName} {bytes : ByteArray} {maxL n index : Nat} {ret : Option FieldType} {rm' : Room} {As st' : List Value} (hC : zCE adK adV tA l y bytes maxL ret rm' G ct As Cc C1 v 0 0) (h1 : Cond.static y ∈ wsL_law) (h2 : Cond.initialized y.cls ∈ wsL_law) (h3 : Cond.code y bytes maxL ret ∈ wsL_law) (hlink : Cond.methodLink own index y ∈ wsL_law) (hd : y.cls ≠ "java/lang/invoke/MethodHandle" ∧ y.cls ≠ "java/lang/invoke/VarHandle" ∧ (parseMethodDescriptor y.desc).map (fun d => d.parameters.length) = some n) (hR : rm'.frames + 1 ≤ R.frames ∧ 8 + (maxL + 11) + rm'.locals ≤ R.locals ∧ cells ≤ R.cells ∧ slots ≤ R.slots) (hrc : rm'.cells = 0) (hrs : rm'.slots = 0) (hn : As.length = n) (hnd : va_nd is = true) (his : is.map (fun i => Cs[i]?) = Cc.map some) (hlen : is.length = C1.length) (hst : st0 = As.reverse ++ st) (hcat : (st.map fun v => v.category).sum ≤ 8) (hdg : decode cc pc = .ok (.invokestatic index, 3))
    (hz : zset Cs is C1 = C2) (hz3 : v.toList ++ st = st') (k : zJ p l e R s m args below meth c Q A G nL cells slots C2 lv (pc + 3) st') : zJ p l e R s m args below meth c Q A G nL cells slots Cs lv pc st0 := by
  subst hst
  subst hz3
  intro H locs ls hP hD hS hl
  have hPc := zsubP hP his
  have hDc := zsubD hD hnd his
  have hF := zfreeF hD hS E.2.2.2.2.2.2.1 his
  have hg : GoodIn wsL_law (va_wsS own index y (Cond.code y bytes maxL ret :: wsL_law)) := zgood h3 (fun w h => by
    simp only [List.mem_cons, List.not_mem_nil, or_false] at h
    rcases h with rfl | rfl | rfl
    · exact hlink
    · exact h1
    · exact h2)
  exact z_back E hP hD hS hl hnd his hlen (va_runS (As := As) (rest := st) ⟨E.1, E.2.1, E.2.2.1, E.2.2.2.1, E.2.2.2.2.1⟩ (hC H.size) (va_cwS n E.2.2.2.2.1 hg rfl hrc hrs hd ⟨hR.1, hR.2.1⟩) ⟨zPreE_blind, fun U hU hW => ⟨rfl, ⟨by rw [hU], by rw [hU]; exact hPc, va_K.moved hW.alike E.2.2.2.2.2.1, hDc.weaken (fun _ _ _ _ => trivial)⟩, by rw [hU]; exact hEnv.go hW hS hF⟩⟩ rfl hn hl.1 rfl (lv_room hcat) hdg hR.2.2) (fun st₀ v' t _ h => h) hz k
theorem z_strv (E : zE p s m args meth c A G ct nL cc own) (hEnv : zEnv adK adV tA A s s.heap) {i index : Nat} (hi : i < 4) (hlink : Cond.fieldLink own index "java/lang/String" "value" "[B" ∈ wsL_law) (hdg : decode cc pc = .ok (.getfield index, 3)) (k : zJ p l e R s m args below meth c Q A G nL cells slots Cs lv (pc + 3) (.ref (adV i) :: st)) : zJ p l e R s m args below meth c Q A G nL cells slots Cs lv pc (.ref (adK i) :: st) := by
  intro H locs ls hP hD hS hl
  exact vk_getf E.1 E.2.1 (hEnv.1.1 i hi).2.2.1 hS E.2.2.2.1 (E.2.2.2.2.1 _ hlink) (fun _ h => h) hdg (k H locs ls hP hD hS hl)
theorem z_strc (E : zE p s m args meth c A G ct nL cc own) (hEnv : zEnv adK adV tA A s s.heap) {i index : Nat} (hi : i < 4) (hlink : Cond.fieldLink own index "java/lang/String" "coder" "B" ∈ wsL_law) (hdg : decode cc pc = .ok (.getfield index, 3)) (k : zJ p l e R s m args below meth c Q A G nL cells slots Cs lv (pc + 3) (.int 0 :: st)) : zJ p l e R s m args below meth c Q A G nL cells slots Cs lv pc (.ref (adK i) :: st) := by
  intro H locs ls hP hD hS hl
  exact vk_getf E.1 E.2.1 (hEnv.1.1 i hi).2.1 hS E.2.2.2.1 (E.2.2.2.2.1 _ hlink) (fun _ h => h) hdg (k H locs ls hP hD hS hl)
theorem z_strl (E : zE p s m args meth c A G ct nL cc own) (hEnv : zEnv adK adV tA A s s.heap) {i : Nat} (hi : i < 4) {v : Int32} (hv : v = Int32.ofNat (sLen.getD i 0)) (hdg : decode cc pc = .ok (.arraylength, 1)) (k : zJ p l e R s m args below meth c Q A G nL cells slots Cs lv (pc + 1) (.int v :: st)) : zJ p l e R s m args below meth c Q A G nL cells slots Cs lv pc (.ref (adV i) :: st) := by
  intro H locs ls hP hD hS hl
  exact va_tlen E.1 E.2.1 (hEnv.1.1 i hi).2.2.2 hS hv.symm hdg (k H locs ls hP hD hS hl)
theorem z_strb (E : zE p s m args meth c A G ct nL cc own) (hEnv : zEnv adK adV tA A s s.heap) {i : Nat} (hi : i < 4) {x : Int32} (hin : ¬ (x < 0 ∨ sLen.getD i 0 ≤ x.toNatClampNeg)) (hdg : decode cc pc = .ok (.baload, 1)) (k : zJ p l e R s m args below meth c Q A G nL cells slots Cs lv (pc + 1) (.int ((sByt.getD i []).getD x.toNatClampNeg 0) :: st)) : zJ p l e R s m args below meth c Q A G nL cells slots Cs lv pc (.int x :: .ref (adV i) :: st) := by
  intro H locs ls hP hD hS hl
  exact va_tb E.1 E.2.1 (hEnv.1.1 i hi).2.2.2 hS hin rfl hdg (k H locs ls hP hD hS hl)
theorem z_compact (E : zE p s m args meth c A G ct nL cc own) (hEnv : zEnv adK adV tA A s s.heap) {index : Nat} (hlink : Cond.fieldLink own index "java/lang/String" "COMPACT_STRINGS" "Z" ∈ wsL_law) (hdg : decode cc pc = .ok (.getstatic index, 3)) (k : zJ p l e R s m args below meth c Q A G nL cells slots Cs lv (pc + 3) (.int 1 :: st)) : zJ p l e R s m args below meth c Q A G nL cells slots Cs lv pc st := by
  intro H locs ls hP hD hS hl
  exact va_gets E.1 E.2.1 hEnv.2.2.1 hS E.2.2.2.1 (E.2.2.2.2.1 _ hlink) (fun _ h => h) hdg (k H locs ls hP hD hS hl)
theorem z_formatter (E : zE p s m args meth c A G ct nL cc own) (hEnv : zEnv adK adV tA A s s.heap) {index : Nat} (hlink : Cond.fieldLink own index "jdk/internal/util/Preconditions" "SIOOBE_FORMATTER" "Ljava/util/function/BiFunction;" ∈ wsL_law) (hdg : decode cc pc = .ok (.getstatic index, 3)) (k : ∀ x : Option Nat, zJ p l e R s m args below meth c Q A G nL cells slots Cs lv (pc + 3) (va_rf x :: st)) : zJ p l e R s m args below meth c Q A G nL cells slots Cs lv pc st := by
  intro H locs ls hP hD hS hl
  rcases hEnv.2.2.2.1 with h | ⟨t, h⟩
  · exact va_gets E.1 E.2.1 h hS E.2.2.2.1 (E.2.2.2.2.1 _ hlink) (fun _ h => h) hdg (k none H locs ls hP hD hS hl)
  · exact va_gets E.1 E.2.1 h hS E.2.2.2.1 (E.2.2.2.2.1 _ hlink) (fun _ h => h) hdg (k (some t) H locs ls hP hD hS hl)
theorem z_above (E : zE p s m args meth c A G ct nL cc own) (hEnv : zEnv adK adV tA A s s.heap) {index : Nat} (hlink : Cond.fieldLink own index "MoreStory" "ABOVE" "[I" ∈ wsL_law) (hdg : decode cc pc = .ok (.getstatic index, 3)) (k : zJ p l e R s m args below meth c Q A G nL cells slots Cs lv (pc + 3) (.ref tA :: st)) : zJ p l e R s m args below meth c Q A G nL cells slots Cs lv pc st := by
  intro H locs ls hP hD hS hl
  exact va_gets E.1 E.2.1 hEnv.2.2.2.2.1 hS E.2.2.2.1 (E.2.2.2.2.1 _ hlink) (fun _ h => h) hdg (k H locs ls hP hD hS hl)
theorem z_aboveAt (E : zE p s m args meth c A G ct nL cc own) (hEnv : zEnv adK adV tA A s s.heap) {x : Int32} (hin : ¬ (x < 0 ∨ 7 ≤ x.toNatClampNeg)) (hdg : decode cc pc = .ok (.iaload, 1)) (k : zJ p l e R s m args below meth c Q A G nL cells slots Cs lv (pc + 1) (.int (([-1, 0, 0, 0, 1, 2, 3] : List Int32).getD x.toNatClampNeg 0) :: st)) : zJ p l e R s m args below meth c Q A G nL cells slots Cs lv pc (.int x :: .ref tA :: st) := by
  intro H locs ls hP hD hS hl
  exact va_ti E.1 E.2.1 hEnv.2.2.2.2.2 hS hin rfl hdg (k H locs ls hP hD hS hl)
theorem z_ldcS (E : zE p s m args meth c A G ct nL cc own) {index q : Nat} {tx : String} (hR : vk_R own index tx q s) (hdg : decode cc pc = .ok (.ldc index, 2)) (k : zJ p l e R s m args below meth c Q A G nL cells slots Cs lv (pc + 2) (.ref q :: st)) : zJ p l e R s m args below meth c Q A G nL cells slots Cs lv pc st := by
  intro H locs ls hP hD hS hl
  exact va_ldcS E.1 E.2.1 E.2.2.2.1 hR hdg (k H locs ls hP hD hS hl)
theorem z_strr (hEnv : zEnv adK adV tA A s s.heap) {i : Nat} (hi : i < 4) : ∀ (H : Heap) (locs : List Loc), va_P G vwCl (zfl Cs) H → va_S A s.heap H locs → ∃ cellB : Cell, H[adK i]? = some cellB ∧ cellB.vm.isStatics = false ∧ s.vm.findClass "java/lang/String" = some cellB.cls := fun H locs _ hS => vk_recv hEnv.1 hi hS
theorem z_cret (E : zE p s m args meth c A G ct nL cc own) {v : Int32} (hr : meth.sig.returnType = some .char) (hv : narrow .char (.int v) = .int v) (hdg : decode cc pc = .ok (.ireturn, 1)) : zJ p l e R s m args below meth c (zQ G ct (some (.int v)) Cs A below args s cells slots) A G nL cells slots Cs lv pc [.int v] := by
  intro H locs ls hP hD hS hl
  exact W.zret (v := v) E.1 E.2.1 hr hv (fun t ht hW => ⟨⟨rfl, by rw [ht]; exact hP, va_K.moved hW.alike E.2.2.2.2.2.1, hD⟩, hS.F ht⟩) hS.2.2 hdg E.2.2.2.2.2.2.2
theorem z_bret (E : zE p s m args meth c A G ct nL cc own) {v : Int32} (hr : meth.sig.returnType = some .byte) (hv : narrow .byte (.int v) = .int v) (hdg : decode cc pc = .ok (.ireturn, 1)) : zJ p l e R s m args below meth c (zQ G ct (some (.int v)) Cs A below args s cells slots) A G nL cells slots Cs lv pc [.int v] := by
  intro H locs ls hP hD hS hl
  exact W.zret (v := v) E.1 E.2.1 hr hv (fun t ht hW => ⟨⟨rfl, by rw [ht]; exact hP, va_K.moved hW.alike E.2.2.2.2.2.1, hD⟩, hS.F ht⟩) hS.2.2 hdg E.2.2.2.2.2.2.2
end ZEN
