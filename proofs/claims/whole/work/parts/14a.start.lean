/-! THE CLAIM OUT OF ONE WALK OF THE LAW'S BODY. Your part is whole_start (and what it stands on); all else here is the same for every law, but numbers. -/
def R_law : String := "MoreStoryLaw"
def lw_P (b : Addr) (xs : List Int32) (args : Array Value) (s : State) : Prop := args = #[.ref b] ∧ s.IntsAt b xs ∧ xs.length ≤ 3072 ∧ (Jvm.Cond.and given_1 narrow_1).before args s = true
def lw_Q (_ : Array Value) (s : State) (o : Outcome) (t : State) : Prop := o = .returned (some (.int 1)) ∧ Framed s o t [] 600000 7302250
def lw_Z (below : List Frame) (a : Array Value) (s : State) : State → Prop := fun t => ∃ o, t.status = .running ∧ Ended t below o ∧ lw_Q a s o t
/-- the law's own end, with 1 on the stack, nothing written that was there before, its room as the claim has it -/
theorem lw_ret {p : Program} {l : Launch} {e : Env} {s : State} {m : MethodId} {below : List Frame} {meth : Method} {c : Code} {b : Nat} (hx : p.tables.exec = Jvm.exec) (hb : c.code = code) (hr : meth.sig.returnType = ret) (hlocks : meth.locks = false) {pc : Nat} {H : Heap} {ls : Array Slot} (hdg : decode code pc = .ok (.ireturn, 1)) : W p l e room_1 s m #[Value.ref b] below meth c H [] 600000 7302250 (lw_Z below #[Value.ref b] s) (F0 m pc ls [.int 1]) := by
  intro T hT X
  obtain ⟨fs, hret, hrun, hended, hW, hframe⟩ := X.leave (v := some (.int 1)) (hlocks := hlocks) (fun h => by rw [hr] at h; cases h)
  have hmeth' : T.vm.method? m = some meth := X.method'
  refine ⟨T.setFrames fs, ?_, .returned (some (.int 1)), hrun, hended, rfl, ⟨_, rfl⟩, hW, hframe⟩
  jvm_step X.here [X.here.top, hx, hb, hdg, hmeth', hr, ret, narrow_b1]
  (try refine ⟨rfl, ?_⟩); (try refine ⟨rfl, ?_⟩)
  first | (intro acts; rw [hret _ acts rfl rfl rfl]) | rw [hret _ _ rfl rfl rfl]
  exact Steps.refl _
/-- what holds at the law's entry: the machine, the code, the tables' words (any of lw_tbl by 'hts w (by decide +kernel)'), the script of L ints xs at the cell b, what the Statement gives of the start (any of its parts by flat_of_before) -/
def lw_At (p : Program) (s : State) (m : MethodId) (meth : Method) (c : Code) (b L : Nat) (xs : Nat → Int32) : Prop :=
  p.tables.exec = Jvm.exec ∧ c.code = code ∧ meth.sig.returnType = ret ∧ c.maxLocals = 4 ∧ s.vm.findClass R_law = some m.cls ∧ (∀ w ∈ lw_tbl, w.before #[Value.ref b] s = true) ∧ va_X b L xs s s.heap ∧ b < s.heap.size ∧ meth.locks = false ∧ (Jvm.Cond.and given_1 narrow_1).before #[Value.ref b] s = true
/-! what holds at the start -/
section LST
variable {args : Array Value} {s : State}
theorem ls_arr {ty : FieldType} (h : (Cond.arrayClass ty).before args s = true) : ∃ c : ClassId, ArrOfT s c ty ∧ s.vm.findClass ("[" ++ ty.toString) = some c := by
  obtain ⟨c, k, comp, h1, h2, h3⟩ := Cond.arrayClass_spec h
  exact ⟨c, fun n z => ⟨fun k h => (by cases h), k, h2, comp, h3⟩, h1⟩
theorem ls_over {C : String} (h : (Cond.arrayOver (.object C)).before args s = true) : ∃ c : ClassId, ArrOfT s c (.object C) ∧ va_RA s c (.object C) := by
  obtain ⟨comp, c, k, h1, -, h3, h4, h5⟩ := Cond.arrayOver_spec h
  exact ⟨c, fun n z => ⟨fun k h => (by cases h), k, h3, comp, h4⟩, k, comp, h3, h4, h1, h5⟩
theorem ls_overA {t : FieldType} (h : (Cond.arrayOver (.array t)).before args s = true) : ∃ c : ClassId, ArrOfT s c (.array t) ∧ va_RA s c (.array t) := by
  simp only [Cond.before, Cond.holds, Cond.value, beq_iff_eq] at h
  cases hc : s.vm.findClass (FieldType.array t).toString with
  | none => simp [hc] at h
  | some comp =>
    simp only [hc, Option.bind_some, Option.bind_eq_some_iff, Option.map_eq_some_iff] at h
    obtain ⟨c, hi, k, hk, hb⟩ := h
    obtain ⟨hlt, hp, -⟩ := Array.findIdx?_eq_some_iff_getElem.mp hi
    have hkk : s.vm.classes[c] = k := (Array.getElem?_eq_some_iff.mp hk).2
    rw [hkk] at hp
    cases hkind : k.kind with
    | array component ty =>
      rw [hkind] at hb hp
      simp at hb hp
      exact ⟨c, fun n z => ⟨fun k h => (by cases h), k, hk, comp, by rw [hkind, hp, hb.1]⟩, hb.2⟩
    | _ => rw [hkind] at hb; simp at hb
theorem ls_K (hts : ∀ w ∈ lw_tbl, w.before args s = true) : ∃ (G : va_G) (ct : Nat → ClassId), va_K G vwCl (zty ct) s := by
  have hw : ∀ w ∈ wsL_law, w.before args s = true := fun w h => hts w (ws_wt w h)
  obtain ⟨c0, i0, k0⟩ := u_known (C := RX0) (T := TX0) (N := 4) (n := 4) hw inlX0 (hw _ wd_8_15)
  obtain ⟨c1, i1, k1⟩ := u_known (C := RX1) (T := TX1) (N := 20) (n := 20) hw inlX1 (hw _ wd_1_14)
  obtain ⟨c2, i2, k2⟩ := u_known (C := RX2) (T := TX2) (N := 5) (n := 5) hw inlX2 (hw _ wd_18_14)
  obtain ⟨c3, i3, k3⟩ := u_known (C := RX3) (T := TX3) (N := 4) (n := 4) hw inlX3 (hw _ wd_8_12)
  obtain ⟨c4, i4, k4⟩ := u_known (C := RX4) (T := TX4) (N := 4) (n := 4) hw inlX4 (hw _ wd_8_21)
  obtain ⟨c5, i5, k5⟩ := u_known (C := RX5) (T := TX5) (N := 9) (n := 9) hw inlX5 (hw _ wd_1_23)
  obtain ⟨c6, i6, k6⟩ := u_known (C := RX6) (T := TX6) (N := 4) (n := 4) hw inlX6 (hw _ wd_8_3)
  obtain ⟨c7, i7, k7⟩ := u_known (C := RX7) (T := TX7) (N := 4) (n := 4) hw inlX7 (hw _ wd_8_6)
  obtain ⟨c8, i8, k8⟩ := u_known (C := RX8) (T := TX8) (N := 4) (n := 4) hw inlX8 (hw _ wd_8_9)
  obtain ⟨c9, i9, k9⟩ := u_known (C := RX9) (T := TX9) (N := 4) (n := 4) hw inlX9 (hw _ wd_8_18)
  obtain ⟨c10, i10, k10⟩ := u_known (C := RX10) (T := TX10) (N := 7) (n := 7) hw inlX10 (hw _ wd_1_19)
  obtain ⟨c11, i11, k11⟩ := u_known (C := RX11) (T := TX11) (N := 12) (n := 12) hw inlX11 (hw _ wd_1_1)
  obtain ⟨c12, i12, k12⟩ := u_known (C := RX12) (T := TX12) (N := 76) (n := 76) hw inlX12 (hw _ wd_1_4)
  obtain ⟨a0, x0, y0⟩ := ls_arr (hw _ wd_2_5)
  obtain ⟨a1, x1, y1⟩ := ls_arr (hw _ wd_2_3)
  obtain ⟨a2, x2, y2⟩ := ls_arr (hw _ wd_2_20)
  obtain ⟨a3, x3, y3⟩ := ls_over (C := "MoreStory$Parent") (hts _ (wtb_0 _ (List.mem_of_getElem? (i := 36) (by decide +kernel))))
  obtain ⟨a4, x4, y4⟩ := ls_overA (t := .long) (hts _ (wtb_0 _ (List.mem_of_getElem? (i := 218) (by decide +kernel))))
  refine ⟨(fun k => if k = 0 then c0 else if k = 1 then c1 else if k = 2 then c2 else if k = 3 then c3 else if k = 4 then c4 else if k = 5 then c5 else if k = 6 then c6 else if k = 7 then c7 else if k = 8 then c8 else if k = 9 then c9 else if k = 10 then c10 else if k = 11 then c11 else c12, fun k => if k = 0 then i0 else if k = 1 then i1 else if k = 2 then i2 else if k = 3 then i3 else if k = 4 then i4 else if k = 5 then i5 else if k = 6 then i6 else if k = 7 then i7 else if k = 8 then i8 else if k = 9 then i9 else if k = 10 then i10 else if k = 11 then i11 else i12), fun k => if k = 0 then a0 else if k = 1 then a1 else if k = 2 then a2 else if k = 3 then a3 else a4, fun k q hq => ?_, fun k q hq => ?_⟩
  · match k, hq with
    | 0, hq => cases hq; exact k0
    | 1, hq => cases hq; exact k1
    | 2, hq => cases hq; exact k2
    | 3, hq => cases hq; exact k3
    | 4, hq => cases hq; exact k4
    | 5, hq => cases hq; exact k5
    | 6, hq => cases hq; exact k6
    | 7, hq => cases hq; exact k7
    | 8, hq => cases hq; exact k8
    | 9, hq => cases hq; exact k9
    | 10, hq => cases hq; exact k10
    | 11, hq => cases hq; exact k11
    | 12, hq => cases hq; exact k12
    | k + 13, hq => simp [vwCl] at hq
  · match k, hq with
    | 0, hq => cases hq; exact ⟨x0, y0⟩
    | 1, hq => cases hq; exact ⟨x1, y1⟩
    | 2, hq => cases hq; exact ⟨x2, y2⟩
    | 3, hq => cases hq; exact ⟨x3, y3⟩
    | 4, hq => cases hq; exact ⟨x4, y4⟩
    | k + 5, hq => simp [zty] at hq
def lsTm (i : Nat) : Term := Term.string RX5 (([58, 66, 81, 83] : List Nat).getD i 0)
theorem ls_eqR {t u : Term} {a : Nat} (h : (Cond.eq t u).before args s = true) (ht : t.eval args s none [] s = some (.ref a)) : u.eval args s none [] s = some (.ref a) := by
  cases hu : u.eval args s none [] s with
  | none => simp [Cond.before, Cond.holds, Cond.value, ht, hu] at h
  | some w =>
    simp only [Cond.before, Cond.holds, Cond.value, ht, hu] at h
    cases w <;> simp_all
set_option maxRecDepth 100000 in
theorem ls_env (hts : ∀ w ∈ lw_tbl, w.before args s = true) (hgv : (Jvm.Cond.and given_1 narrow_1).before args s = true) : ∃ (adK adV : Nat → Nat) (tA : Nat), zEnv adK adV tA (fun q => s.heap.size ≤ q) s s.heap := by
  have hs := flat_of_before _ hgv
  have hw : ∀ w ∈ wsL_law, w.before args s = true := fun w h => hts w (ws_wt w h)
  have hA : ∀ a : Nat, a < s.heap.size → ¬ (fun q : Nat => s.heap.size ≤ q) a := fun a h => Nat.not_le.mpr h
  have d1 : ∀ i : Nat, i < 4 → Cond.exactly (lsTm i) "java/lang/String" ∈ flatC (Jvm.Cond.and given_1 narrow_1) := by decide +kernel
  have d2 : ∀ i : Nat, i < 4 → Cond.eq (.field (lsTm i) "java/lang/String" "coder" "B") (.int 0) ∈ flatC (Jvm.Cond.and given_1 narrow_1) := by decide +kernel
  have d3 : ∀ i : Nat, i < 4 → Cond.arrayOf (.field (lsTm i) "java/lang/String" "value" "[B") .byte ∈ flatC (Jvm.Cond.and given_1 narrow_1) := by decide +kernel
  have d4 : ∀ i : Nat, i < 4 → Cond.eq (.length (.field (lsTm i) "java/lang/String" "value" "[B")) (.int (Int32.ofNat (sLen.getD i 0))) ∈ flatC (Jvm.Cond.and given_1 narrow_1) := by decide +kernel
  have d5 : ∀ i : Nat, i < 4 → ∀ j : Nat, j < sLen.getD i 0 → Cond.eq (.elem (.field (lsTm i) "java/lang/String" "value" "[B") (.int (Int32.ofNat j))) (.int ((sByt.getD i []).getD j 0)) ∈ flatC (Jvm.Cond.and given_1 narrow_1) := by decide +kernel
  have d6 : ∀ i : Nat, i < 4 → ∀ j : Nat, j < 4 → i ≠ j → Cond.not (Cond.eq (lsTm i) (lsTm j)) ∈ flatC (Jvm.Cond.and given_1 narrow_1) ∨ Cond.not (Cond.eq (lsTm j) (lsTm i)) ∈ flatC (Jvm.Cond.and given_1 narrow_1) := by decide +kernel
  have d7 : ∀ j : Nat, j < 7 → Cond.eq (.elem (.static "MoreStory" "ABOVE" "[I") (.int (Int32.ofNat j))) (.int (([-1, 0, 0, 0, 1, 2, 3] : List Int32).getD j 0)) ∈ flatC (Jvm.Cond.and given_1 narrow_1) := by decide +kernel
  obtain ⟨adK, adV, e1, e2⟩ := vk_Sof (N := 4) (tm := lsTm) (len := sLen) (byt := sByt) (A := fun q => s.heap.size ≤ q) (args := args) (s := s) (by decide) (fun i hi => hs _ (d1 i hi)) (fun i hi => hs _ (d2 i hi)) (fun i hi => hs _ (d3 i hi)) (fun i hi => hs _ (d4 i hi)) (fun i hi j hj => hs _ (d5 i hi j hj)) (fun i j hi hj hij => (d6 i hi j hj hij).imp (fun h => hs _ h) (fun h => hs _ h)) hA
  obtain ⟨tA, t1, t2⟩ := va_Tof (args := args) (s := s) (tm := .static "MoreStory" "ABOVE" "[I") (ty := .int) (N := 7) (f := fun j => .int (([-1, 0, 0, 0, 1, 2, 3] : List Int32).getD j 0)) (A := fun q => s.heap.size ≤ q) (by decide) (hs _ (by decide +kernel)) (va_eqt (hs _ (by decide +kernel))) (fun j hj => va_eqt (hs _ (d7 j hj))) hA
  refine ⟨adK, adV, tA, e1, ⟨vk_R.of (A := args) (hts _ (wtb_1 _ (List.mem_of_getElem? (i := 224) (by decide +kernel)))) (e2 0 (by decide)), vk_R.of (A := args) (hts _ (wtb_2 _ (List.mem_of_getElem? (i := 33) (by decide +kernel)))) (e2 1 (by decide)), vk_R.of (A := args) (hts _ (wtb_2 _ (List.mem_of_getElem? (i := 120) (by decide +kernel)))) (e2 2 (by decide)), vk_R.of (A := args) (hts _ (wtb_2 _ (List.mem_of_getElem? (i := 121) (by decide +kernel)))) (e2 3 (by decide)), vk_R.of (A := args) (hts _ (wtb_2 _ (List.mem_of_getElem? (i := 128) (by decide +kernel)))) (ls_eqR (hs _ (by decide +kernel)) (e2 2 (by decide)))⟩, va_Zof (args := args) (hts _ (wtb_1 _ (List.mem_of_getElem? (i := 234) (by decide +kernel)))) (hw _ wd_19_10) (va_eqt (hs _ (by decide +kernel))) hA, va_Zqof (args := args) (hts _ (wtb_2 _ (List.mem_of_getElem? (i := 2) (by decide +kernel)))) (hw _ wd_20_5) (hs _ (by decide +kernel)) hA, va_Zref (args := args) (hts _ (wtb_3 _ (List.mem_of_getElem? (i := 202) (by decide +kernel)))) (hw _ wd_1_2) t1 hA, t2⟩
theorem ls_nst (hts : ∀ w ∈ lw_tbl, w.before args s = true) (A : Nat → Prop) : zNst A s :=
  ⟨va_Nw.of (A := args) rfl (hts _ (wtb_0 _ (List.mem_of_getElem? (i := 31) (by decide +kernel)))), va_Nw.of (A := args) rfl (hts _ (wtb_0 _ (List.mem_of_getElem? (i := 141) (by decide +kernel)))), va_Nw.of (A := args) rfl (hts _ (wtb_0 _ (List.mem_of_getElem? (i := 146) (by decide +kernel)))), va_Nw.of (A := args) rfl (hts _ (wtb_0 _ (List.mem_of_getElem? (i := 176) (by decide +kernel)))), va_AO.of (A := args) (hts _ (wtb_0 _ (List.mem_of_getElem? (i := 36) (by decide +kernel)))), (show (Cond.arrayOver (.array .long)).before args s = true from (hts _ (wtb_0 _ (List.mem_of_getElem? (i := 218) (by decide +kernel)))))⟩
end LST
