/-! more words about methods that make cells -/
theorem z_mem_get {α : Type} {x : α} : ∀ {l : List α}, x ∈ l → ∃ k : Nat, k < l.length ∧ l[k]? = some x := fun {l} h => by
  obtain ⟨k, hk, e⟩ := List.getElem_of_mem h
  exact ⟨k, hk, by rw [List.getElem?_eq_getElem hk, e]⟩
def zNE (adK adV : Nat → Nat) (tA : Nat) (A : Nat → Prop) (U : State) : Prop := zEnv adK adV tA A U U.heap
theorem zBl_env {adK adV : Nat → Nat} {tA : Nat} : zBl (zNE adK adV tA) := fun _ a U g mk h => zEnv.same (u := U) (U := U.calling g mk a) rfl h
section ZMO
variable {p : Program} {l : Launch} {e : Env} {R : Room} {s : State} {m : MethodId} {args : Array Value} {below : List Frame} {meth : Method} {c : Code} {Q : State → Prop} {A : Nat → Prop} {G : va_G} {ct : Nat → ClassId} {nL cells slots : Nat} {cc : ByteArray} {own : String} {Cs Cc C2 : List va_W} {lv : List (Nat × Value)} {pc : Nat} {st st0 : List Value} {is : List Nat} {mc ms : Nat}
theorem z_more {c2 s2 : Nat} (h1 : cells ≤ c2) (h2 : slots ≤ s2) (k : zJ p l e R s m args below meth c Q A G nL c2 s2 Cs lv pc st) : zJ p l e R s m args below meth c Q A G nL cells slots Cs lv pc st := fun H locs ls hP hD hS hl T hT X => k H locs ls hP hD hS hl T hT { X with same := X.same.mono h1 h2 }
theorem z_freshD {i j g q : Nat} {L : List (Nat × zPS)} {e0 : va_E} (hn : va_nd [i, j] = true) (hi : Cs[i]? = some (wDp g L)) (hj : Cs[j]? = some [(q, e0)]) (k : q ∉ L.map Prod.fst → zJ p l e R s m args below meth c Q A G nL cells slots Cs lv pc st) : zJ p l e R s m args below meth c Q A G nL cells slots Cs lv pc st := by
  intro H locs ls hP hD hS hl
  refine k (fun hq => ?_) H locs ls hP hD hS hl
  have hD2 := zsubD (is := [i, j]) (Cc := [wDp g L, [(q, e0)]]) hD hn (by simp [hi, hj])
  obtain ⟨x, hx, ex⟩ := List.mem_map.mp hq
  have hm : (x.1, (.inr (pcls x.2.1, [.int x.2.1, .int x.2.2.1, .int x.2.2.2, .ref g]) : va_E)) ∈ wDp g L := List.mem_flatMap.mpr ⟨x, hx, List.mem_singleton.mpr rfl⟩
  obtain ⟨k1, hk1, g1⟩ := z_mem_get hm
  have h0 : zfl [wDp g L, [(q, e0)]] = wDp g L ++ [(q, e0)] := by simp [zfl]
  rw [h0] at hD2
  have := hD2.1 k1 (wDp g L).length _ _ (by rw [List.getElem?_append_left hk1]; exact g1) (by rw [List.getElem?_append_right (Nat.le_refl _), Nat.sub_self]; rfl) ex
  omega
theorem z_freshE {i j : Nat} {L : List ((Nat → Nat) × zQS)} {u : Nat → Nat} {v : zQS} (hn : va_nd [i, j] = true) (hi : Cs[i]? = some (wDh ct L)) (hj : Cs[j]? = some (wQ u ct v)) (k : (∀ x ∈ L, x.1 200 ≠ u 200) → zJ p l e R s m args below meth c Q A G nL cells slots Cs lv pc st) : zJ p l e R s m args below meth c Q A G nL cells slots Cs lv pc st := by
  intro H locs ls hP hD hS hl
  refine k (fun x hx ex => ?_) H locs ls hP hD hS hl
  have hD2 := zsubD (is := [i, j]) (Cc := [wDh ct L, wQ u ct v]) hD hn (by simp [hi, hj])
  have hm : (x.1 200, (.inr (2, [.ref (x.1 0), .ref (x.1 1), .ref (x.1 2), .ref (x.1 3), .ref (x.1 4)]) : va_E)) ∈ wDh ct L := List.mem_flatMap.mpr ⟨x, hx, List.mem_cons_self ..⟩
  obtain ⟨k1, hk1, g1⟩ := z_mem_get hm
  have h0 : zfl [wDh ct L, wQ u ct v] = wDh ct L ++ wQ u ct v := by simp [zfl]
  rw [h0] at hD2
  have := hD2.1 k1 (wDh ct L).length _ (u 200, .inr (2, [.ref (u 0), .ref (u 1), .ref (u 2), .ref (u 3), .ref (u 4)])) (by rw [List.getElem?_append_left hk1]; exact g1) (by rw [List.getElem?_append_right (Nat.le_refl _), Nat.sub_self]; rfl) ex
  omega
/-- a constructor's call, what it asks of the start carried along -/
theorem z_callIG (E : zE p s m args meth c A G ct nL cc own) {N : (Nat → Prop) → State → Prop} (hbl : zBl N) (hN : ∀ (B : Nat → Prop) (H : Heap) (locs : List Loc) (U : State), va_S A s.heap H locs → U.heap = H → s.WarmedH U.vm → (∀ q, B q → A q) → N B U) {B : Option Value → List va_W → Prop} {y : MethodName} {bytes : ByteArray} {maxL n index b : Nat} {rm' : Room} {As : List Value} (hC : zCX N l y bytes maxL none rm' G ct (.ref b :: As) Cc B mc ms) (h1 : Cond.initialized y.cls ∈ wsL_law) (h2 : Cond.methodLink own index y ∈ wsL_law) (h3 : Cond.instanceMethod y ∈ wsL_law) (h4 : Cond.code y bytes maxL none ∈ wsL_law) (hy1 : y.name = "<init>") (hd : y.cls ≠ "java/lang/invoke/MethodHandle" ∧ y.cls ≠ "java/lang/invoke/VarHandle" ∧ (parseMethodDescriptor y.desc).map (fun d => d.parameters.length) = some n) (hR : rm'.frames + 1 ≤ R.frames ∧ 8 + (maxL + 11) + rm'.locals ≤ R.locals) (hrc : rm'.cells = mc) (hrs : rm'.slots = ms) (hroom : cells + mc ≤ R.cells ∧ slots + ms ≤ R.slots) (hn : As.length = n) (hnd : va_nd is = true) (his : is.map (fun i => Cs[i]?) = Cc.map some) (hlen : ∀ v C1, B v C1 → is.length = C1.length) (hst : st0 = As.reverse ++ .ref b :: st) (hcat : (st.map fun v => v.category).sum ≤ 8) (hdg : decode cc pc = .ok (.invokespecial index, 3))
    (k : ∀ v C1, B v C1 → zJ p l e R s m args below meth c Q A G nL (cells + mc) (slots + ms) (zset Cs is C1) lv (pc + 3) (v.toList ++ st)) : zJ p l e R s m args below meth c Q A G nL cells slots Cs lv pc st0 := by
  subst hst
  intro H locs ls hP hD hS hl
  have hPc := zsubP hP his
  have hDc := zsubD hD hnd his
  have hF := zfreeF hD hS E.2.2.2.2.2.2.1 his
  have hg : GoodIn wsL_law (Cond.code y bytes maxL none :: wsL_law) := zgood (ws := []) h4 (fun w h => absurd h List.not_mem_nil)
  exact z_backX E hP hD hS hl hnd his hlen (va_runI (As := As) (rest := st) ⟨E.1, E.2.1, E.2.2.1, E.2.2.2.1, E.2.2.2.2.1⟩ (hC H.size) (cwI n E.2.2.2.2.1 hg rfl hrc hrs (E.2.2.2.2.1 _ h1) (E.2.2.2.2.1 _ h2) (E.2.2.2.2.1 _ h3) hy1 hd hR) ⟨zX_blind hbl, fun U hU hW => ⟨rfl, ⟨by rw [hU], by rw [hU]; exact hPc, va_K.moved hW.alike E.2.2.2.2.2.1, hDc.weaken (fun _ _ _ _ => trivial)⟩, hN _ H locs U hS hU hW hF⟩⟩ rfl hn hl.1 rfl (lv_room hcat) hdg hroom) (fun st₀ v' t _ h => h) k
/-- a method's call whose answer is said by a predicate -/
theorem z_callVX (E : zE p s m args meth c A G ct nL cc own) {N : (Nat → Prop) → State → Prop} (hbl : zBl N) (hN : ∀ (B : Nat → Prop) (H : Heap) (locs : List Loc) (U : State), va_S A s.heap H locs → U.heap = H → s.WarmedH U.vm → (∀ q, B q → A q) → N B U) {B : Option Value → List va_W → Prop} {y : MethodName} {C : String} {bytes : ByteArray} {maxL n index b : Nat} {ret : Option FieldType} {rm' : Room} {As : List Value} (hC : zCX N l y bytes maxL ret rm' G ct (.ref b :: As) Cc B mc ms) (hw : zWV C y bytes maxL ret n) (hlink : Cond.methodLink own index y ∈ wsL_law) (hR : rm'.frames + 1 ≤ R.frames ∧ 8 + (maxL + 11) + rm'.locals ≤ R.locals) (hrc : rm'.cells = mc) (hrs : rm'.slots = ms) (hroom : cells + mc ≤ R.cells ∧ slots + ms ≤ R.slots) (hn : As.length = n) (hnd : va_nd is = true) (his : is.map (fun i => Cs[i]?) = Cc.map some) (hlen : ∀ v C1, B v C1 → is.length = C1.length) (hrv : zRv Cc b C) (hst : st0 = As.reverse ++ .ref b :: st) (hcat : (st.map fun v => v.category).sum ≤ 8) (hdg : decode cc pc = .ok (.invokevirtual index, 3))
    (k : ∀ v C1, B v C1 → zJ p l e R s m args below meth c Q A G nL (cells + mc) (slots + ms) (zset Cs is C1) lv (pc + 3) (v.toList ++ st)) : zJ p l e R s m args below meth c Q A G nL cells slots Cs lv pc st0 := by
  subst hst
  intro H locs ls hP hD hS hl
  have hPc := zsubP hP his
  have hDc := zsubD hD hnd his
  have hF := zfreeF hD hS E.2.2.2.2.2.2.1 his
  obtain ⟨j, i, ci, w, fs, q, r1, r2, r3, r4⟩ := hrv
  obtain ⟨k9, r5, -⟩ := zfl_cell r1 r2
  subst r4
  have hg : GoodIn wsL_law (wsV own index q.1 y (Cond.code y bytes maxL ret :: wsL_law)) := zgood hw.2.2.2.1 (fun w h => by
    simp only [List.mem_cons, List.not_mem_nil, or_false] at h
    rcases h with rfl | rfl | rfl | rfl
    · exact hlink
    · exact hw.1
    · exact hw.2.1
    · exact hw.2.2.1)
  exact z_backX E hP hD hS hl hnd his hlen (va_runV (As := As) (rest := st) ⟨E.1, E.2.1, E.2.2.1, E.2.2.2.1, E.2.2.2.2.1⟩ (hC H.size) (cwV n E.2.2.2.2.1 hg rfl hrc hrs hw.2.2.2.2 hR) ⟨zX_blind hbl, va_recv E.2.2.2.2.2.1 hPc r3 r5, fun U hU hW => ⟨rfl, ⟨by rw [hU], by rw [hU]; exact hPc, va_K.moved hW.alike E.2.2.2.2.2.1, hDc.weaken (fun _ _ _ _ => trivial)⟩, hN _ H locs U hS hU hW hF⟩⟩ rfl hn hl.1 rfl (lv_room hcat) hdg hroom) (fun st₀ v' t _ h => h) k
end ZMO
