/-! calls over lists of parts -/
def zWV (C : String) (y : MethodName) (bytes : ByteArray) (maxL : Nat) (ret : Option FieldType) (n : Nat) : Prop := Cond.instanceMethod y ∈ wsL_law ∧ Cond.selects C y y ∈ wsL_law ∧ Cond.initialized C ∈ wsL_law ∧ Cond.code y bytes maxL ret ∈ wsL_law ∧ (y.cls = C ∧ y.cls ≠ "java/lang/invoke/MethodHandle" ∧ y.cls ≠ "java/lang/invoke/VarHandle" ∧ (parseMethodDescriptor y.desc).map (fun d => d.parameters.length) = some n)
def zWS (own : String) (y : MethodName) (bytes : ByteArray) (maxL : Nat) (ret : Option FieldType) (n : Nat) : Prop := Cond.static y ∈ wsL_law ∧ Cond.initialized own ∈ wsL_law ∧ Cond.code y bytes maxL ret ∈ wsL_law ∧ (y.cls = own ∧ y.cls ≠ "java/lang/invoke/MethodHandle" ∧ y.cls ≠ "java/lang/invoke/VarHandle" ∧ (parseMethodDescriptor y.desc).map (fun d => d.parameters.length) = some n)
def zRv (Cc : List va_W) (b : Nat) (C : String) : Prop := ∃ (j i ci : Nat) (w : va_W) (fs : List Value) (q : vw_C), Cc[j]? = some w ∧ w[i]? = some (b, .inr (ci, fs)) ∧ vwCl[ci]? = some q ∧ q.1 = C
theorem zPre_blind {G : va_G} {ct : Nat → ClassId} {Cs : List va_W} {sz : Nat} {as : List Value} : FrameBlind (va_Pc as (zPre G ct Cs sz)) := fun a U g mk q => by
  obtain ⟨q0, q1, qP, qK, qD⟩ := q
  exact ⟨q0, q1, qP, va_K.moved (u := U) (U := U.calling g mk a) (Vm.Alike.refl U.vm) qK, qD⟩
theorem zgood {y : MethodName} {bytes : ByteArray} {maxL : Nat} {ret : Option FieldType} {ws : List Cond} (hc : Cond.code y bytes maxL ret ∈ wsL_law) (h : ∀ w ∈ ws, w ∈ wsL_law) : GoodIn wsL_law (ws ++ (Cond.code y bytes maxL ret :: wsL_law)) := fun w hw => by
  rcases List.mem_append.mp hw with q | q
  · exact ws_good w (h w q)
  · rcases List.mem_cons.mp q with q | q
    · exact q ▸ ws_good _ hc
    · exact ws_good w q
section ZC
variable {p : Program} {l : Launch} {e : Env} {R : Room} {s : State} {m : MethodId} {args : Array Value} {below : List Frame} {meth : Method} {c : Code} {Q : State → Prop} {A : Nat → Prop} {G : va_G} {ct : Nat → ClassId} {nL cells slots : Nat} {cc : ByteArray} {own : String} {Cs Cc C1 C2 : List va_W} {lv : List (Nat × Value)} {pc : Nat} {st st0 : List Value} {is : List Nat} {v : Option Value} {mc ms : Nat}
theorem z_back (E : zE p s m args meth c A G ct nL cc own) {Qa : State → Outcome → State → Prop} {H : Heap} {locs : List Loc} {ls : Array Slot} (hP : va_P G vwCl (zfl Cs) H) (hD : va_D A (zfl Cs)) (hS : va_S A s.heap H locs) (hl : lv_has ls nL lv) (hnd : va_nd is = true) (his : is.map (fun i => Cs[i]?) = Cc.map some) (hlen : is.length = C1.length)
    (hr : va_Run p l e R s m args below meth c H locs cells slots mc ms (F0 m pc ls st0) st Qa (va_A (zfl Cc) H.size)) (hq : ∀ st₀ v' t, st₀.heap = H → Qa st₀ (.returned v') t → zPost G ct v C1 (va_A (zfl Cc) H.size) (.returned v') t ∧ va_F (va_A (zfl Cc) H.size) st₀ t)
    (h2 : zset Cs is C1 = C2) (k : zJ p l e R s m args below meth c Q A G nL (cells + mc) (slots + ms) C2 lv (pc + 3) (v.toList ++ st)) : W p l e R s m args below meth c H locs cells slots Q (F0 m pc ls st0) := by
  subst h2
  intro T hT X
  obtain ⟨v', st₀, t, T', L, h0, X', hL, e1, e2, hqa, st9⟩ := hr T hT X
  obtain ⟨⟨hv, hP1, hK1, hD1⟩, hz, hk⟩ := hq st₀ v' t h0 hqa
  cases hv
  rw [h0] at hz hk
  have hF := zfreeF hD hS E.2.2.2.2.2.2.1 his
  obtain ⟨hP2, hD2⟩ := zjoin hP hD hnd his hlen hk hF hP1 hD1
  have hS2 : va_S A s.heap t.heap (locs ++ L) := ⟨Nat.le_trans hS.1 hz, fun q h1 h2 => by rw [hk q (Nat.lt_of_lt_of_le h1 hS.1) (fun z => h2 (hF q z))]; exact hS.2.1 q h1 h2, fun q hq => by
    rcases List.mem_append.mp hq with h | h
    · exact hS.2.2 q h
    · exact hF _ (hL q h)⟩
  obtain ⟨t2, a1, b1⟩ := k t.heap (locs ++ L) ls hP2 hD2 hS2 hl T' e1 X'
  exact ⟨t2, st9 t2 a1, b1⟩
theorem z_callV (E : zE p s m args meth c A G ct nL cc own) {y : MethodName} {C : String} {bytes : ByteArray} {maxL n index b : Nat} {ret : Option FieldType} {rm' : Room} {As : List Value} (hC : zC l y bytes maxL ret rm' G ct (.ref b :: As) Cc C1 v mc ms) (hw : zWV C y bytes maxL ret n) (hlink : Cond.methodLink own index y ∈ wsL_law) (hR : rm'.frames + 1 ≤ R.frames ∧ 8 + (maxL + 11) + rm'.locals ≤ R.locals) (hrc : rm'.cells = mc) (hrs : rm'.slots = ms) (hroom : cells + mc ≤ R.cells ∧ slots + ms ≤ R.slots) (hn : As.length = n) (hnd : va_nd is = true) (his : is.map (fun i => Cs[i]?) = Cc.map some) (hlen : is.length = C1.length) (hrv : zRv Cc b C) (hst : st0 = As.reverse ++ .ref b :: st) (hcat : (st.map fun v => v.category).sum ≤ 8) (hdg : decode cc pc = .ok (.invokevirtual index, 3))
    (h2 : zset Cs is C1 = C2) (k : zJ p l e R s m args below meth c Q A G nL (cells + mc) (slots + ms) C2 lv (pc + 3) (v.toList ++ st)) : zJ p l e R s m args below meth c Q A G nL cells slots Cs lv pc st0 := by
  subst hst
  intro H locs ls hP hD hS hl
  have hPc := zsubP hP his
  have hDc := zsubD hD hnd his
  obtain ⟨j, i, ci, w, fs, q, r1, r2, r3, r4⟩ := hrv
  obtain ⟨k9, r5, -⟩ := zfl_cell r1 r2
  subst r4
  have hg : GoodIn wsL_law (wsV own index q.1 y (Cond.code y bytes maxL ret :: wsL_law)) := zgood hw.2.2.2.1 (fun w h => by
    simp only [List.mem_cons, List.not_mem_nil, or_false] at h
    rcases h with rfl | rfl | rfl | rfl
    · exact hlink
    · exact hw.1
    · exact hw.2.1
    · exact hw.2.2.1)
  refine z_back E hP hD hS hl hnd his hlen (va_runV (As := As) (rest := st) ⟨E.1, E.2.1, E.2.2.1, E.2.2.2.1, E.2.2.2.2.1⟩ (hC H.size) (cwV n E.2.2.2.2.1 hg rfl hrc hrs hw.2.2.2.2 hR) ⟨zPre_blind, va_recv E.2.2.2.2.2.1 hPc r3 r5, fun U hU hW => ⟨rfl, by rw [hU], by rw [hU]; exact hPc, va_K.moved hW.alike E.2.2.2.2.2.1, hDc.weaken (fun _ _ _ _ => trivial)⟩⟩ rfl hn hl.1 rfl (lv_room hcat) hdg hroom) (fun st₀ v' t _ h => h) h2 k
theorem z_callS (E : zE p s m args meth c A G ct nL cc own) {y : MethodName} {bytes : ByteArray} {maxL n index : Nat} {ret : Option FieldType} {rm' : Room} {As : List Value} (hC : zC l y bytes maxL ret rm' G ct As Cc C1 v mc ms) (hw : zWS own y bytes maxL ret n) (hlink : Cond.methodLink own index y ∈ wsL_law) (hR : rm'.frames + 1 ≤ R.frames ∧ 8 + (maxL + 11) + rm'.locals ≤ R.locals) (hrc : rm'.cells = mc) (hrs : rm'.slots = ms) (hroom : cells + mc ≤ R.cells ∧ slots + ms ≤ R.slots) (hn : As.length = n) (hnd : va_nd is = true) (his : is.map (fun i => Cs[i]?) = Cc.map some) (hlen : is.length = C1.length) (hst : st0 = As.reverse ++ st) (hcat : (st.map fun v => v.category).sum ≤ 8) (hdg : decode cc pc = .ok (.invokestatic index, 3))
    (h2 : zset Cs is C1 = C2) (k : zJ p l e R s m args below meth c Q A G nL (cells + mc) (slots + ms) C2 lv (pc + 3) (v.toList ++ st)) : zJ p l e R s m args below meth c Q A G nL cells slots Cs lv pc st0 := by
  subst hst
  intro H locs ls hP hD hS hl
  have hPc := zsubP hP his
  have hDc := zsubD hD hnd his
  have hg : GoodIn wsL_law (wsS own index y (Cond.code y bytes maxL ret :: wsL_law)) := zgood hw.2.2.1 (fun w h => by
    simp only [List.mem_cons, List.not_mem_nil, or_false] at h
    rcases h with rfl | rfl | rfl
    · exact hlink
    · exact hw.1
    · exact hw.2.1)
  refine z_back E hP hD hS hl hnd his hlen (va_runS (As := As) (rest := st) ⟨E.1, E.2.1, E.2.2.1, E.2.2.2.1, E.2.2.2.2.1⟩ (hC H.size) (cwS n E.2.2.2.2.1 hg rfl hrc hrs hw.2.2.2 hR) ⟨zPre_blind, fun U hU hW => ⟨rfl, by rw [hU], by rw [hU]; exact hPc, va_K.moved hW.alike E.2.2.2.2.2.1, hDc.weaken (fun _ _ _ _ => trivial)⟩⟩ rfl hn hl.1 rfl (lv_room hcat) hdg hroom) (fun st₀ v' t _ h => h) h2 k
theorem z_callV0 (E : zE p s m args meth c A G ct nL cc own) {y : MethodName} {C : String} {bytes : ByteArray} {maxL n index b : Nat} {ret : Option FieldType} {rm' : Room} {As st' : List Value} (hC : zC l y bytes maxL ret rm' G ct (.ref b :: As) Cc C1 v 0 0) (hw : zWV C y bytes maxL ret n) (hlink : Cond.methodLink own index y ∈ wsL_law) (hR : rm'.frames + 1 ≤ R.frames ∧ 8 + (maxL + 11) + rm'.locals ≤ R.locals ∧ cells ≤ R.cells ∧ slots ≤ R.slots) (hrc : rm'.cells = 0) (hrs : rm'.slots = 0) (hn : As.length = n) (hnd : va_nd is = true) (his : is.map (fun i => Cs[i]?) = Cc.map some) (hlen : is.length = C1.length) (hrv : zRv Cc b C) (hst : st0 = As.reverse ++ .ref b :: st) (hcat : (st.map fun v => v.category).sum ≤ 8) (hdg : decode cc pc = .ok (.invokevirtual index, 3))
    (h2 : zset Cs is C1 = C2) (h3 : v.toList ++ st = st') (k : zJ p l e R s m args below meth c Q A G nL cells slots C2 lv (pc + 3) st') : zJ p l e R s m args below meth c Q A G nL cells slots Cs lv pc st0 := by
  subst h3
  exact z_callV E hC hw hlink ⟨hR.1, hR.2.1⟩ hrc hrs hR.2.2 hn hnd his hlen hrv hst hcat hdg h2 k
theorem z_callS0 (E : zE p s m args meth c A G ct nL cc own) {y : MethodName} {bytes : ByteArray} {maxL n index : Nat} {ret : Option FieldType} {rm' : Room} {As st' : List Value} (hC : zC l y bytes maxL ret rm' G ct As Cc C1 v 0 0) (hw : zWS own y bytes maxL ret n) (hlink : Cond.methodLink own index y ∈ wsL_law) (hR : rm'.frames + 1 ≤ R.frames ∧ 8 + (maxL + 11) + rm'.locals ≤ R.locals ∧ cells ≤ R.cells ∧ slots ≤ R.slots) (hrc : rm'.cells = 0) (hrs : rm'.slots = 0) (hn : As.length = n) (hnd : va_nd is = true) (his : is.map (fun i => Cs[i]?) = Cc.map some) (hlen : is.length = C1.length) (hst : st0 = As.reverse ++ st) (hcat : (st.map fun v => v.category).sum ≤ 8) (hdg : decode cc pc = .ok (.invokestatic index, 3))
    (h2 : zset Cs is C1 = C2) (h3 : v.toList ++ st = st') (k : zJ p l e R s m args below meth c Q A G nL cells slots C2 lv (pc + 3) st') : zJ p l e R s m args below meth c Q A G nL cells slots Cs lv pc st0 := by
  subst h3
  exact z_callS E hC hw hlink ⟨hR.1, hR.2.1⟩ hrc hrs hR.2.2 hn hnd his hlen hst hcat hdg h2 k
end ZC
