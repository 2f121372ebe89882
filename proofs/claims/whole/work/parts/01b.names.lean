/-! ===== BEGIN words of one list among another's, by their places ===== -/
theorem goodIn_r {big : List Cond} (ws : List Cond) (ps : List Nat) (hp : ws = ps.filterMap (fun i => big[i]?)) (h : ws.all goodWord = true) : GoodIn big ws := by
  intro w hw
  have h1 := List.all_eq_true.mp h w hw
  rw [hp] at hw
  obtain ⟨i, -, hi⟩ := List.mem_filterMap.mp hw
  have hm : w ∈ big := by first | exact List.mem_of_getElem? hi | exact List.getElem?_mem hi
  exact ⟨hm, good_of_word h1⟩
theorem goodIn_app {big a b : List Cond} (ha : GoodIn big a) (hb : GoodIn big b) : GoodIn big (a ++ b) := fun w h => (List.mem_append.mp h).elim (ha w) (hb w)
theorem goodIn_ca {big a b : List Cond} {c : Cond} (ha : GoodIn big (c :: a)) (hb : GoodIn big b) : GoodIn big (c :: (a ++ b)) := fun w h => (List.mem_cons.mp h).elim (fun e => ha w (List.mem_cons.mpr (Or.inl e))) (fun h => (List.mem_append.mp h).elim (fun h => ha w (List.mem_cons.mpr (Or.inr h))) (hb w))
theorem goodIn_sub {big ws : List Cond} (hm : ∀ w ∈ ws, w ∈ big) (h : ws.all goodWord = true) : GoodIn big ws := fun w hw => ⟨hm w hw, good_of_word (List.all_eq_true.mp h w hw)⟩
/-! ===== END ===== -/

/-! ===== BEGIN new T[n][m]: the outer array a place, the inner ones among the pooled ===== -/
/-- f, but v at every address of l -/
def vr_up {α : Type} (f : Nat → α) (l : List Nat) (v : α) : Nat → α := fun a => if a ∈ l then v else f a
theorem vr_up_in {α : Type} {f : Nat → α} {l : List Nat} {v : α} {a : Nat} (h : a ∈ l) : vr_up f l v a = v := if_pos h
theorem vr_up_ne {α : Type} {f : Nat → α} {l : List Nat} {v : α} {a : Nat} (h : a ∉ l) : vr_up f l v a = f a := if_neg h
theorem vr_rows {L l : List Nat} {f : Nat → va_E} {e : va_E} (h : ∀ a, a ∈ l → a ∉ L) : va_pl L f ++ l.map (fun a => (a, e)) = va_pl (L ++ l) (vr_up f l e) := by
  unfold va_pl
  rw [List.map_append]
  congr 1
  · apply List.map_congr_left
    intro a ha
    rw [vr_up_ne (fun q => h a q ha)]
  · apply List.map_congr_left
    intro a ha
    rw [vr_up_in ha]
theorem vr_lay {X rows : va_W} {x : Nat × va_E} {pl : va_W} {D : va_G} {cl : List vw_C} {H : Heap} (hP : va_P D cl (((X ++ pl) ++ [x]) ++ rows) H) : va_P D cl ((X ++ [x]) ++ (pl ++ rows)) H := by
  rw [List.append_assoc (X ++ pl)] at hP
  have h := va_P.swap hP
  rw [← List.append_assoc X] at h
  have h2 := va_P.swap h
  rw [List.append_assoc (X ++ [x])] at h2
  exact h2
theorem vr_layD {X rows : va_W} {x : Nat × va_E} {pl : va_W} {A : Nat → Prop} (hD : va_D A (((X ++ pl) ++ [x]) ++ rows)) : va_D A ((X ++ [x]) ++ (pl ++ rows)) := by
  rw [List.append_assoc (X ++ pl)] at hD
  have h := va_D.swap hD
  rw [← List.append_assoc X] at h
  have h2 := va_D.swap h
  rw [List.append_assoc (X ++ [x])] at h2
  exact h2
theorem vr_outer (c : ClassId) (N h0 : Nat) : ∀ i : Nat, Jvm.Free.Multi.outerC c N h0 i = arrV c N (fun j => va_rf (if j < i then some (h0 + 1 + j) else none))
  | 0 => by
    show ({ cls := c, slots := Array.replicate N .null, vm := .none } : Cell) = _
    rw [arrV_new]
    refine congrArg (arrV c N) (funext fun j => ?_)
    simp [va_rf]
  | i + 1 => by
    show (Jvm.Free.Multi.outerC c N h0 i).setSlot i (.ref (h0 + 1 + i)) = _
    rw [vr_outer c N h0 i, arrV_store]
    refine congrArg (arrV c N) (funext fun j => ?_)
    by_cases e : j = i
    · subst e
      simp [updV, va_rf]
    · by_cases h : j < i
      · simp [updV, e, h, Nat.lt_succ_of_lt h]
      · simp [updV, e, h, show ¬ j < i + 1 by omega]
section VGM
variable {p : Program} {l : Launch} {e : Env} {R : Room} {s : State} {m : MethodId} {args : Array Value} {below : List Frame} {meth : Method} {c : Code} {H : Heap} {locs : List Loc} {cells slots : Nat} {Q : State → Prop}
variable {cc : ByteArray} {pc : Nat} {ls : Array Slot} {rest : List Value} {D : va_G} {cl : List vw_C} {A : Nat → Prop} {a : Nat} {tys : List (ClassId × FieldType)} {ws : va_W} {H0 : Heap}
theorem va_mna {X : va_W} {L : List Nat} {f : Nat → va_E} {cc : ByteArray} (hexec : p.tables.exec = Jvm.exec) (hb : c.code = cc) {own : String} {index : Nat} {ty : FieldType} {cy : ClassId} (hown : s.vm.findClass own = some m.cls) (hclink : (Cond.classLink own index ("[" ++ (FieldType.array ty).toString)).before args s = true) (hover : (Cond.arrayOver (.array ty)).before args s = true) (harr : (Cond.arrayClass ty).before args s = true) (hcy : s.vm.findClass (FieldType.array ty).toString = some cy)
    (hK : va_K D cl tys s) (hP : va_P D cl (X ++ va_pl L f) H) (hD : va_D A (X ++ va_pl L f)) (hS : va_S A H0 H locs) (hA : ∀ q, H0.size ≤ q → A q) {n k : Int32} {N' K' : Nat} {z : vp_A} (hn : ¬ n < 0) (hk : ¬ k < 0) (hN : n.toNatClampNeg = N') (hM : k.toNatClampNeg = K')
    (hb1 : N' * 4 ≤ 536870912) (hb2 : K' * componentBytes ty ≤ 536870912) (hb3 : K' ≤ 536870912) (hdf : fits ty (defaultValue ty) = true) (hdd : (defaultValue ty).isDefault = true) (hcells : cells + (1 + N') ≤ R.cells) (hslots : slots + (N' + N' * K') ≤ R.slots) (hz : ∀ c : ClassId, Jvm.Free.Multi.innerC c K' (defaultValue ty) = vp_cell c z) (hdg : decode cc pc = .ok (.multianewarray index 2, 4))
    (kk : ∀ (q : Nat) (r : Nat → Nat) (cA : ClassId) (H1 : Heap), (∀ i j : Nat, i < N' → j < N' → r i = r j → i = j) → (∀ i : Nat, i < N' → r i ∉ L) → va_K D cl (tys ++ [(cA, .array ty)]) s →
      va_P D cl ((X ++ [(q, .inl (cA, N', .inr (.inr (.inr (.inr (fun i => if i < N' then some (r i) else none))))))]) ++ va_pl (L ++ (List.range N').map r) (vr_up f ((List.range N').map r) (.inl (cy, z)))) H1 → va_D A ((X ++ [(q, .inl (cA, N', .inr (.inr (.inr (.inr (fun i => if i < N' then some (r i) else none))))))]) ++ va_pl (L ++ (List.range N').map r) (vr_up f ((List.range N').map r) (.inl (cy, z)))) → va_S A H0 H1 locs →
      W p l e R s m args below meth c H1 locs (cells + 1 + N') (slots + N' + N' * K') Q (F0 m (pc + 4) ls (.ref q :: rest))) : W p l e R s m args below meth c H locs cells slots Q (F0 m pc ls (.int k :: .int n :: rest)) := by
  subst hN
  subst hM
  intro T hT Xs
  obtain ⟨vm₁, cA, comp, -, fA, fC, hO, -, X', step⟩ := Xs.multianewarray2F hexec hown hclink hover harr (g := F0 m pc ls (.int k :: .int n :: rest)) rfl (by rw [hb]; exact hdg) rfl hn hk hb1 hb2 hb3 hdf hdd hcells hslots
  have ec : some cy = some comp := hcy.symm.trans fC
  cases ec
  generalize hF : Jvm.Free.Multi.fill (T.setVm vm₁) cA cy n.toNatClampNeg k.toNatClampNeg (defaultValue ty) n.toNatClampNeg = F at X' step
  have hTh : (T.setVm vm₁).heap = H := hT
  obtain ⟨f1, f2, -, -⟩ := Jvm.Free.Multi.fill_facts (T.setVm vm₁) cA cy n.toNatClampNeg k.toNatClampNeg (defaultValue ty) n.toNatClampNeg
  rw [hF, hTh] at f1 f2
  have hold : ∀ x : Nat, x < H.size → F.heap[x]? = H[x]? := fun x hx => by
    have := Jvm.Free.Multi.fill_old (T.setVm vm₁) cA cy n.toNatClampNeg k.toNatClampNeg (defaultValue ty) (a := x) (by rw [hTh]; exact hx) n.toNatClampNeg
    rw [hF, hTh] at this
    exact this
  have hrow : ∀ j : Nat, j < n.toNatClampNeg → F.heap[H.size + 1 + j]? = some (vp_cell cy z) := fun j hj => by
    have := Jvm.Free.Multi.fill_inner (T.setVm vm₁) cA cy n.toNatClampNeg k.toNatClampNeg (defaultValue ty) n.toNatClampNeg j hj
    rw [hF, hTh, hz] at this
    exact this
  have hout : Jvm.Free.Multi.outerC cA n.toNatClampNeg H.size n.toNatClampNeg = vp_cell cA (n.toNatClampNeg, .inr (.inr (.inr (.inr (fun i => if i < n.toNatClampNeg then some (H.size + 1 + i) else none))))) := by
    rw [vp_cell_q]
    exact vr_outer cA n.toNatClampNeg H.size n.toNatClampNeg
  rw [hout] at f2
  have hlt : ∀ a, a ∈ L → a < H.size := fun a ha => by
    obtain ⟨k9, hk9⟩ := va_pl_get (X := X) (f := f) ha
    exact (hP k9 _ hk9).lt
  have hnl : ∀ i : Nat, i < n.toNatClampNeg → H.size + 1 + i ∉ L := fun i _ h => by
    have := hlt _ h
    omega
  have hnm : ∀ a, a ∈ (List.range n.toNatClampNeg).map (fun i => H.size + 1 + i) → a ∉ L := fun a ha h => by
    obtain ⟨i, -, rfl⟩ := List.mem_map.mp ha
    have := hlt _ h
    omega
  have hP0 : va_P D cl (X ++ va_pl L f) F.heap := hP.kept (fun k9 x hx => hold x.1 ((hP k9 x hx).lt))
  have hP1 : va_P D cl ((X ++ va_pl L f) ++ [(H.size, .inl (cA, n.toNatClampNeg, .inr (.inr (.inr (.inr (fun i => if i < n.toNatClampNeg then some (H.size + 1 + i) else none))))))]) F.heap := hP0.app (fun k9 x hx => by
    have h0 : k9 < 1 := (List.getElem?_eq_some_iff.mp hx).1
    rw [show k9 = 0 by omega] at hx
    cases hx
    exact f2)
  have hP2 : va_P D cl (((X ++ va_pl L f) ++ [(H.size, .inl (cA, n.toNatClampNeg, .inr (.inr (.inr (.inr (fun i => if i < n.toNatClampNeg then some (H.size + 1 + i) else none))))))]) ++ ((List.range n.toNatClampNeg).map (fun i => H.size + 1 + i)).map (fun a => (a, .inl (cy, z)))) F.heap := hP1.app (fun k9 x hx => by
    obtain ⟨a, ha, rfl⟩ := List.mem_map.mp (List.mem_of_getElem? hx)
    obtain ⟨i, hi, rfl⟩ := List.mem_map.mp ha
    exact hrow i (List.mem_range.mp hi))
  have hD2 : va_D A (((X ++ va_pl L f) ++ [(H.size, .inl (cA, n.toNatClampNeg, .inr (.inr (.inr (.inr (fun i => if i < n.toNatClampNeg then some (H.size + 1 + i) else none))))))]) ++ ((List.range n.toNatClampNeg).map (fun i => H.size + 1 + i)).map (fun a => (a, .inl (cy, z)))) := by
    have hD1 := hD.push (e := .inl (cA, n.toNatClampNeg, .inr (.inr (.inr (.inr (fun i => if i < n.toNatClampNeg then some (H.size + 1 + i) else none)))))) hP rfl (hA _ hS.1)
    generalize hW1 : (X ++ va_pl L f) ++ [(H.size, .inl (cA, n.toNatClampNeg, .inr (.inr (.inr (.inr (fun i => if i < n.toNatClampNeg then some (H.size + 1 + i) else none))))))] = W1 at hD1 hP1 ⊢
    have hle : ∀ (k9 : Nat) (x : Nat × va_E), W1[k9]? = some x → x.1 ≤ H.size := fun k9 x hx => by
      rw [← hW1] at hx
      by_cases hl : k9 < (X ++ va_pl L f).length
      · rw [List.getElem?_append_left hl] at hx
        exact Nat.le_of_lt ((hP k9 x hx).lt)
      · rw [List.getElem?_append_right (by omega)] at hx
        have h0 : k9 - (X ++ va_pl L f).length < 1 := (List.getElem?_eq_some_iff.mp hx).1
        rw [show k9 - (X ++ va_pl L f).length = 0 by omega] at hx
        cases hx
        exact Nat.le_refl _
    have hr : ∀ (k9 : Nat) (x : Nat × va_E), (((List.range n.toNatClampNeg).map (fun i => H.size + 1 + i)).map (fun a => ((a, .inl (cy, z)) : Nat × va_E)))[k9]? = some x → x.1 = H.size + 1 + k9 := fun k9 x hx => by
      rw [List.getElem?_map, List.getElem?_map] at hx
      by_cases h9 : k9 < n.toNatClampNeg
      · rw [List.getElem?_range h9] at hx
        cases hx
        rfl
      · have hn0 : (List.range n.toNatClampNeg)[k9]? = none := List.getElem?_eq_none (by rw [List.length_range]; omega)
        rw [hn0] at hx
        cases hx
    refine ⟨fun i j x y hi hj hxy => ?_, fun k9 x hx => ?_⟩
    · by_cases h1 : i < W1.length <;> by_cases h2 : j < W1.length
      · rw [List.getElem?_append_left h1] at hi
        rw [List.getElem?_append_left h2] at hj
        exact hD1.1 i j x y hi hj hxy
      · rw [List.getElem?_append_left h1] at hi
        rw [List.getElem?_append_right (by omega)] at hj
        have := hle _ _ hi
        have := hr _ _ hj
        omega
      · rw [List.getElem?_append_right (by omega)] at hi
        rw [List.getElem?_append_left h2] at hj
        have := hle _ _ hj
        have := hr _ _ hi
        omega
      · rw [List.getElem?_append_right (by omega)] at hi hj
        have := hr _ _ hi
        have := hr _ _ hj
        omega
    · by_cases h1 : k9 < W1.length
      · rw [List.getElem?_append_left h1] at hx
        exact hD1.2 k9 x hx
      · rw [List.getElem?_append_right (by omega)] at hx
        have := hr _ _ hx
        exact hA _ (by have := hS.1; omega)
  have hAr : ArrOfT s cA (.array ty) := fun N9 z9 => by
    obtain ⟨-, k9, hk9, cm9, hkk9⟩ := (hO 0 0 0).1
    exact ⟨(fun q hq => by cases hq), k9, hk9, cm9, hkk9⟩
  have hK2 : va_K D cl (tys ++ [(cA, .array ty)]) s := ⟨hK.1, fun k9 x hx => by
    by_cases hl : k9 < tys.length
    · rw [List.getElem?_append_left hl] at hx
      exact hK.2 k9 x hx
    · rw [List.getElem?_append_right (by omega)] at hx
      have h0 : k9 - tys.length < 1 := (List.getElem?_eq_some_iff.mp hx).1
      rw [show k9 - tys.length = 0 by omega] at hx
      cases hx
      exact ⟨hAr, fA⟩⟩
  obtain ⟨t, a1, b1⟩ := kk H.size (fun i => H.size + 1 + i) cA F.heap (fun i j _ _ h => by have h9 : H.size + 1 + i = H.size + 1 + j := h; omega) hnl hK2 (by rw [← vr_rows hnm]; exact vr_lay hP2) (by rw [← vr_rows hnm]; exact vr_layD hD2) ⟨by rw [f1]; have := hS.1; omega, fun x h1 h2 => (hold x (Nat.lt_of_lt_of_le h1 hS.1)).trans (hS.2.1 x h1 h2), hS.2.2⟩ F rfl X'
  refine ⟨t, step t ?_, b1⟩
  have e : T.heap.size = H.size := by rw [hT]
  rw [e]
  exact a1
end VGM
/-! ===== END ===== -/

/-! ===== BEGIN printed: names, fields, word lists, decode rows ===== -/
def RX0 : String := "MoreStory$Fair"
def TX0 : u_T := fun k => match k with
  | 0 => ("MoreStory$Parent", "kind", "I", true)
  | 1 => ("MoreStory$Parent", "i", "I", true)
  | 2 => ("MoreStory$Parent", "v", "I", true)
  | _ => ("MoreStory$Parent", "log", "[I", true)
def tyX0 : Nat → FieldType := fun k => match k with
  | 0 => .int
  | 1 => .int
  | 2 => .int
  | _ => .array .int
abbrev wsX00 : List Cond := u_ws RX0 TX0 4
theorem nmX0 : ∀ a, a < 4 → ∀ b, b < 4 → a ≠ b → (TX0 a).2.1 ≠ (TX0 b).2.1 := by decide +kernel
theorem tyX0_ok : ∀ k, k < 4 → parseFieldDescriptor (TX0 k).2.2.1 = some (tyX0 k) := by decide +kernel
abbrev cX0_init : ByteArray := prog_2_method_1_code
def yX0_init : MethodName := ⟨RX0, "<init>", "(III[I)V"⟩
abbrev cX0_grants : ByteArray := prog_2_method_2_code
def yX0_grants : MethodName := ⟨RX0, "grants", "(LMoreStory$Home;I)Z"⟩
abbrev cX0_tells : ByteArray := prog_2_method_3_code
def yX0_tells : MethodName := ⟨RX0, "tells", "(I)I"⟩
def RX1 : String := "MoreStory$Home"
def TX1 : u_T := fun k => match k with
  | 0 => ("MoreStory$Home", "minutes", "[I", true)
  | 1 => ("MoreStory$Home", "sweet", "[I", true)
  | 2 => ("MoreStory$Home", "habit", "[I", true)
  | 3 => ("MoreStory$Home", "persons", "[LMoreStory$Parent;", true)
  | 4 => ("MoreStory$Home", "rows", "[I", true)
  | 5 => ("MoreStory$Home", "said", "[Z", true)
  | 6 => ("MoreStory$Home", "book", "[I", true)
  | 7 => ("MoreStory$Home", "things", "I", false)
  | 8 => ("MoreStory$Home", "parents", "I", false)
  | 9 => ("MoreStory$Home", "heard", "I", false)
  | 10 => ("MoreStory$Home", "booked", "I", false)
  | 11 => ("MoreStory$Home", "clock", "I", false)
  | 12 => ("MoreStory$Home", "sleepy", "I", false)
  | 13 => ("MoreStory$Home", "nos", "I", false)
  | 14 => ("MoreStory$Home", "given", "I", false)
  | 15 => ("MoreStory$Home", "one", "I", false)
  | 16 => ("MoreStory$Home", "evening", "I", false)
  | 17 => ("MoreStory$Home", "house", "LMoreStory$House;", false)
  | 18 => ("MoreStory$Home", "late", "I", false)
  | _ => ("MoreStory$Home", "deep", "I", false)
def tyX1 : Nat → FieldType := fun k => match k with
  | 0 => .array .int
  | 1 => .array .int
  | 2 => .array .int
  | 3 => .array (.object "MoreStory$Parent")
  | 4 => .array .int
  | 5 => .array .boolean
  | 6 => .array .int
  | 7 => .int
  | 8 => .int
  | 9 => .int
  | 10 => .int
  | 11 => .int
  | 12 => .int
  | 13 => .int
  | 14 => .int
  | 15 => .int
  | 16 => .int
  | 17 => .object "MoreStory$House"
  | 18 => .int
  | _ => .int
abbrev wsX10 : List Cond := u_ws RX1 TX1 20
theorem nmX1 : ∀ a, a < 20 → ∀ b, b < 20 → a ≠ b → (TX1 a).2.1 ≠ (TX1 b).2.1 := by decide +kernel
theorem tyX1_ok : ∀ k, k < 20 → parseFieldDescriptor (TX1 k).2.2.1 = some (tyX1 k) := by decide +kernel
abbrev cX1_init : ByteArray := prog_3_method_1_code
def yX1_init : MethodName := ⟨RX1, "<init>", "()V"⟩
abbrev cX1_copy : ByteArray := prog_3_method_2_code
def yX1_copy : MethodName := ⟨RX1, "copy", "(LMoreStory$Home;)V"⟩
abbrev cX1_has : ByteArray := prog_3_method_3_code
def yX1_has : MethodName := ⟨RX1, "has", "(I)Z"⟩
abbrev cX1_person : ByteArray := prog_3_method_4_code
def yX1_person : MethodName := ⟨RX1, "person", "(I)LMoreStory$Parent;"⟩
abbrev cX1_hold : ByteArray := prog_3_method_5_code
def yX1_hold : MethodName := ⟨RX1, "hold", "(LMoreStory$House;)V"⟩
abbrev cX1_how : ByteArray := prog_3_method_6_code
def yX1_how : MethodName := ⟨RX1, "how", "()I"⟩
abbrev cX1_moved : ByteArray := prog_3_method_7_code
def yX1_moved : MethodName := ⟨RX1, "moved", "(LMoreStory$Parent;IZ)I"⟩
abbrev cX1_pass : ByteArray := prog_3_method_8_code
def yX1_pass : MethodName := ⟨RX1, "pass", "(LMoreStory$Parent;IZ)V"⟩
abbrev cX1_sleepOver : ByteArray := prog_3_method_9_code
def yX1_sleepOver : MethodName := ⟨RX1, "sleepOver", "()V"⟩
abbrev cX1_habits : ByteArray := prog_3_method_10_code
def yX1_habits : MethodName := ⟨RX1, "habits", "()I"⟩
def RX2 : String := "MoreStory$House"
def TX2 : u_T := fun k => match k with
  | 0 => ("MoreStory$House", "words", "[I", true)
  | 1 => ("MoreStory$House", "numbers", "[I", true)
  | 2 => ("MoreStory$House", "ends", "[I", true)
  | 3 => ("MoreStory$House", "code", "[I", true)
  | _ => ("MoreStory$House", "seen", "[I", true)
def tyX2 : Nat → FieldType := fun k => match k with
  | 0 => .array .int
  | 1 => .array .int
  | 2 => .array .int
  | 3 => .array .int
  | _ => .array .int
abbrev wsX20 : List Cond := u_ws RX2 TX2 5
theorem nmX2 : ∀ a, a < 5 → ∀ b, b < 5 → a ≠ b → (TX2 a).2.1 ≠ (TX2 b).2.1 := by decide +kernel
theorem tyX2_ok : ∀ k, k < 5 → parseFieldDescriptor (TX2 k).2.2.1 = some (tyX2 k) := by decide +kernel
abbrev cX2_init : ByteArray := prog_4_method_1_code
def yX2_init : MethodName := ⟨RX2, "<init>", "(LMoreStory$Reader;)V"⟩
abbrev cX2_last : ByteArray := prog_4_method_2_code
def yX2_last : MethodName := ⟨RX2, "last", "(II)I"⟩
abbrev cX2_look : ByteArray := prog_4_method_3_code
def yX2_look : MethodName := ⟨RX2, "look", "(LMoreStory$Parent;ILMoreStory$Home;)V"⟩
abbrev cX2_sum : ByteArray := prog_4_method_4_code
def yX2_sum : MethodName := ⟨RX2, "sum", "(II)I"⟩
abbrev cX2_holds : ByteArray := prog_4_method_5_code
def yX2_holds : MethodName := ⟨RX2, "holds", "(II)Z"⟩
def RX3 : String := "MoreStory$Melting"
def TX3 : u_T := fun k => match k with
  | 0 => ("MoreStory$Parent", "kind", "I", true)
  | 1 => ("MoreStory$Parent", "i", "I", true)
  | 2 => ("MoreStory$Parent", "v", "I", true)
  | _ => ("MoreStory$Parent", "log", "[I", true)
def tyX3 : Nat → FieldType := fun k => match k with
  | 0 => .int
  | 1 => .int
  | 2 => .int
  | _ => .array .int
abbrev wsX30 : List Cond := u_ws RX3 TX3 4
theorem nmX3 : ∀ a, a < 4 → ∀ b, b < 4 → a ≠ b → (TX3 a).2.1 ≠ (TX3 b).2.1 := by decide +kernel
theorem tyX3_ok : ∀ k, k < 4 → parseFieldDescriptor (TX3 k).2.2.1 = some (tyX3 k) := by decide +kernel
abbrev cX3_init : ByteArray := prog_5_method_1_code
def yX3_init : MethodName := ⟨RX3, "<init>", "(III[I)V"⟩
abbrev cX3_grants : ByteArray := prog_5_method_2_code
def yX3_grants : MethodName := ⟨RX3, "grants", "(LMoreStory$Home;I)Z"⟩
abbrev cX3_hears : ByteArray := prog_5_method_3_code
def yX3_hears : MethodName := ⟨RX3, "hears", "(I)I"⟩
abbrev cX3_gives : ByteArray := prog_5_method_4_code
def yX3_gives : MethodName := ⟨RX3, "gives", "(I)I"⟩
def RX4 : String := "MoreStory$Parent"
def TX4 : u_T := fun k => match k with
  | 0 => ("MoreStory$Parent", "kind", "I", true)
  | 1 => ("MoreStory$Parent", "i", "I", true)
  | 2 => ("MoreStory$Parent", "v", "I", true)
  | _ => ("MoreStory$Parent", "log", "[I", true)
def tyX4 : Nat → FieldType := fun k => match k with
  | 0 => .int
  | 1 => .int
  | 2 => .int
  | _ => .array .int
abbrev wsX40 : List Cond := u_ws RX4 TX4 4
theorem nmX4 : ∀ a, a < 4 → ∀ b, b < 4 → a ≠ b → (TX4 a).2.1 ≠ (TX4 b).2.1 := by decide +kernel
theorem tyX4_ok : ∀ k, k < 4 → parseFieldDescriptor (TX4 k).2.2.1 = some (tyX4 k) := by decide +kernel
abbrev cX4_init : ByteArray := prog_6_method_1_code
def yX4_init : MethodName := ⟨RX4, "<init>", "(III[I)V"⟩
abbrev cX4_begins : ByteArray := prog_6_method_2_code
def yX4_begins : MethodName := ⟨RX4, "begins", "(I)V"⟩
abbrev cX4_grants : ByteArray := prog_6_method_3_code
def yX4_grants : MethodName := ⟨RX4, "grants", "(LMoreStory$Home;I)Z"⟩
abbrev cX4_hears : ByteArray := prog_6_method_4_code
def yX4_hears : MethodName := ⟨RX4, "hears", "(I)I"⟩
abbrev cX4_gives : ByteArray := prog_6_method_5_code
def yX4_gives : MethodName := ⟨RX4, "gives", "(I)I"⟩
abbrev cX4_tells : ByteArray := prog_6_method_6_code
def yX4_tells : MethodName := ⟨RX4, "tells", "(I)I"⟩
def RX5 : String := "MoreStory$Reader"
def TX5 : u_T := fun k => match k with
  | 0 => ("MoreStory$Reader", "text", "[I", true)
  | 1 => ("MoreStory$Reader", "code", "[I", true)
  | 2 => ("MoreStory$Reader", "words", "[I", true)
  | 3 => ("MoreStory$Reader", "numbers", "[I", true)
  | 4 => ("MoreStory$Reader", "ends", "[I", true)
  | 5 => ("MoreStory$Reader", "length", "I", false)
  | 6 => ("MoreStory$Reader", "at", "I", false)
  | 7 => ("MoreStory$Reader", "codes", "I", false)
  | _ => ("MoreStory$Reader", "clauses", "I", false)
def tyX5 : Nat → FieldType := fun k => match k with
  | 0 => .array .int
  | 1 => .array .int
  | 2 => .array .int
  | 3 => .array .int
  | 4 => .array .int
  | 5 => .int
  | 6 => .int
  | 7 => .int
  | _ => .int
abbrev wsX50 : List Cond := u_ws RX5 TX5 9
theorem nmX5 : ∀ a, a < 9 → ∀ b, b < 9 → a ≠ b → (TX5 a).2.1 ≠ (TX5 b).2.1 := by decide +kernel
theorem tyX5_ok : ∀ k, k < 9 → parseFieldDescriptor (TX5 k).2.2.1 = some (tyX5 k) := by decide +kernel
abbrev cX5_init : ByteArray := prog_7_method_1_code
def yX5_init : MethodName := ⟨RX5, "<init>", "()V"⟩
abbrev cX5_reads : ByteArray := prog_7_method_2_code
def yX5_reads : MethodName := ⟨RX5, "reads", "()Z"⟩
abbrev cX5_takes : ByteArray := prog_7_method_3_code
def yX5_takes : MethodName := ⟨RX5, "takes", "(I)Z"⟩
abbrev cX5_clause : ByteArray := prog_7_method_4_code
def yX5_clause : MethodName := ⟨RX5, "clause", "()Z"⟩
abbrev cX5_word : ByteArray := prog_7_method_5_code
def yX5_word : MethodName := ⟨RX5, "word", "()I"⟩
abbrev cX5_number : ByteArray := prog_7_method_6_code
def yX5_number : MethodName := ⟨RX5, "number", "()I"⟩
abbrev cX5_either : ByteArray := prog_7_method_7_code
def yX5_either : MethodName := ⟨RX5, "either", "(I)Z"⟩
abbrev cX5_every : ByteArray := prog_7_method_8_code
def yX5_every : MethodName := ⟨RX5, "every", "(I)Z"⟩
abbrev cX5_factor : ByteArray := prog_7_method_9_code
def yX5_factor : MethodName := ⟨RX5, "factor", "(I)Z"⟩
abbrev cX5_oneOf : ByteArray := prog_7_method_10_code
def yX5_oneOf : MethodName := ⟨RX5, "oneOf", "(Ljava/lang/String;)I"⟩
abbrev cX5_puts : ByteArray := prog_7_method_11_code
def yX5_puts : MethodName := ⟨RX5, "puts", "(I)Z"⟩
def RX6 : String := "MoreStory$Soft"
def TX6 : u_T := fun k => match k with
  | 0 => ("MoreStory$Parent", "kind", "I", true)
  | 1 => ("MoreStory$Parent", "i", "I", true)
  | 2 => ("MoreStory$Parent", "v", "I", true)
  | _ => ("MoreStory$Parent", "log", "[I", true)
def tyX6 : Nat → FieldType := fun k => match k with
  | 0 => .int
  | 1 => .int
  | 2 => .int
  | _ => .array .int
abbrev wsX60 : List Cond := u_ws RX6 TX6 4
theorem nmX6 : ∀ a, a < 4 → ∀ b, b < 4 → a ≠ b → (TX6 a).2.1 ≠ (TX6 b).2.1 := by decide +kernel
theorem tyX6_ok : ∀ k, k < 4 → parseFieldDescriptor (TX6 k).2.2.1 = some (tyX6 k) := by decide +kernel
abbrev cX6_init : ByteArray := prog_8_method_1_code
def yX6_init : MethodName := ⟨RX6, "<init>", "(III[I)V"⟩
abbrev cX6_grants : ByteArray := prog_8_method_2_code
def yX6_grants : MethodName := ⟨RX6, "grants", "(LMoreStory$Home;I)Z"⟩
abbrev cX6_gives : ByteArray := prog_8_method_3_code
def yX6_gives : MethodName := ⟨RX6, "gives", "(I)I"⟩
def RX7 : String := "MoreStory$Strict"
def TX7 : u_T := fun k => match k with
  | 0 => ("MoreStory$Parent", "kind", "I", true)
  | 1 => ("MoreStory$Parent", "i", "I", true)
  | 2 => ("MoreStory$Parent", "v", "I", true)
  | _ => ("MoreStory$Parent", "log", "[I", true)
def tyX7 : Nat → FieldType := fun k => match k with
  | 0 => .int
  | 1 => .int
  | 2 => .int
  | _ => .array .int
abbrev wsX70 : List Cond := u_ws RX7 TX7 4
theorem nmX7 : ∀ a, a < 4 → ∀ b, b < 4 → a ≠ b → (TX7 a).2.1 ≠ (TX7 b).2.1 := by decide +kernel
theorem tyX7_ok : ∀ k, k < 4 → parseFieldDescriptor (TX7 k).2.2.1 = some (tyX7 k) := by decide +kernel
abbrev cX7_init : ByteArray := prog_9_method_1_code
def yX7_init : MethodName := ⟨RX7, "<init>", "(III[I)V"⟩
abbrev cX7_grants : ByteArray := prog_9_method_2_code
def yX7_grants : MethodName := ⟨RX7, "grants", "(LMoreStory$Home;I)Z"⟩
abbrev cX7_hears : ByteArray := prog_9_method_3_code
def yX7_hears : MethodName := ⟨RX7, "hears", "(I)I"⟩
def RX8 : String := "MoreStory$Tired"
def TX8 : u_T := fun k => match k with
  | 0 => ("MoreStory$Parent", "kind", "I", true)
  | 1 => ("MoreStory$Parent", "i", "I", true)
  | 2 => ("MoreStory$Parent", "v", "I", true)
  | _ => ("MoreStory$Parent", "log", "[I", true)
def tyX8 : Nat → FieldType := fun k => match k with
  | 0 => .int
  | 1 => .int
  | 2 => .int
  | _ => .array .int
abbrev wsX80 : List Cond := u_ws RX8 TX8 4
theorem nmX8 : ∀ a, a < 4 → ∀ b, b < 4 → a ≠ b → (TX8 a).2.1 ≠ (TX8 b).2.1 := by decide +kernel
theorem tyX8_ok : ∀ k, k < 4 → parseFieldDescriptor (TX8 k).2.2.1 = some (tyX8 k) := by decide +kernel
abbrev cX8_init : ByteArray := prog_10_method_1_code
def yX8_init : MethodName := ⟨RX8, "<init>", "(III[I)V"⟩
abbrev cX8_grants : ByteArray := prog_10_method_2_code
def yX8_grants : MethodName := ⟨RX8, "grants", "(LMoreStory$Home;I)Z"⟩
abbrev cX8_tells : ByteArray := prog_10_method_3_code
def yX8_tells : MethodName := ⟨RX8, "tells", "(I)I"⟩
def RX9 : String := "MoreStory$Told"
def TX9 : u_T := fun k => match k with
  | 0 => ("MoreStory$Parent", "kind", "I", true)
  | 1 => ("MoreStory$Parent", "i", "I", true)
  | 2 => ("MoreStory$Parent", "v", "I", true)
  | _ => ("MoreStory$Parent", "log", "[I", true)
def tyX9 : Nat → FieldType := fun k => match k with
  | 0 => .int
  | 1 => .int
  | 2 => .int
  | _ => .array .int
abbrev wsX90 : List Cond := u_ws RX9 TX9 4
theorem nmX9 : ∀ a, a < 4 → ∀ b, b < 4 → a ≠ b → (TX9 a).2.1 ≠ (TX9 b).2.1 := by decide +kernel
theorem tyX9_ok : ∀ k, k < 4 → parseFieldDescriptor (TX9 k).2.2.1 = some (tyX9 k) := by decide +kernel
abbrev cX9_init : ByteArray := prog_11_method_1_code
def yX9_init : MethodName := ⟨RX9, "<init>", "(III[I)V"⟩
abbrev cX9_grants : ByteArray := prog_11_method_2_code
def yX9_grants : MethodName := ⟨RX9, "grants", "(LMoreStory$Home;I)Z"⟩
abbrev cX9_gives : ByteArray := prog_11_method_3_code
def yX9_gives : MethodName := ⟨RX9, "gives", "(I)I"⟩
abbrev cX9_hears : ByteArray := prog_11_method_4_code
def yX9_hears : MethodName := ⟨RX9, "hears", "(I)I"⟩
def RX10 : String := "MoreStory$Trial"
def TX10 : u_T := fun k => match k with
  | 0 => ("MoreStory$Trial", "home", "LMoreStory$Home;", true)
  | 1 => ("MoreStory$Trial", "turn", "[I", true)
  | 2 => ("MoreStory$Trial", "turns", "I", false)
  | 3 => ("MoreStory$Trial", "place", "I", false)
  | 4 => ("MoreStory$Trial", "coupons", "I", false)
  | 5 => ("MoreStory$Trial", "asks", "I", false)
  | _ => ("MoreStory$Trial", "minutes", "I", false)
def tyX10 : Nat → FieldType := fun k => match k with
  | 0 => .object "MoreStory$Home"
  | 1 => .array .int
  | 2 => .int
  | 3 => .int
  | 4 => .int
  | 5 => .int
  | _ => .int
abbrev wsX100 : List Cond := u_ws RX10 TX10 7
theorem nmX10 : ∀ a, a < 7 → ∀ b, b < 7 → a ≠ b → (TX10 a).2.1 ≠ (TX10 b).2.1 := by decide +kernel
theorem tyX10_ok : ∀ k, k < 7 → parseFieldDescriptor (TX10 k).2.2.1 = some (tyX10 k) := by decide +kernel
abbrev cX10_init : ByteArray := prog_12_method_1_code
def yX10_init : MethodName := ⟨RX10, "<init>", "()V"⟩
abbrev cX10_start : ByteArray := prog_12_method_2_code
def yX10_start : MethodName := ⟨RX10, "start", "(LMoreStory$Home;)V"⟩
abbrev cX10_skip : ByteArray := prog_12_method_3_code
def yX10_skip : MethodName := ⟨RX10, "skip", "(I)V"⟩
abbrev cX10_afresh : ByteArray := prog_12_method_4_code
def yX10_afresh : MethodName := ⟨RX10, "afresh", "([I)V"⟩
abbrev cX10_goesOn : ByteArray := prog_12_method_5_code
def yX10_goesOn : MethodName := ⟨RX10, "goesOn", "()Z"⟩
abbrev cX10_step : ByteArray := prog_12_method_6_code
def yX10_step : MethodName := ⟨RX10, "step", "(LMoreStory$Parent;)Z"⟩
abbrev cX10_run : ByteArray := prog_12_method_7_code
def yX10_run : MethodName := ⟨RX10, "run", "(LMoreStory$Parent;LMoreStory$Parent;I)V"⟩
abbrev cX10_sleepsAt : ByteArray := prog_12_method_8_code
def yX10_sleepsAt : MethodName := ⟨RX10, "sleepsAt", "(LMoreStory$Parent;LMoreStory$Parent;)I"⟩
def RX11 : String := "MoreStory"
def TX11 : u_T := fun k => match k with
  | 0 => ("MoreStory", "now", "LMoreStory$Home;", true)
  | 1 => ("MoreStory", "kept", "LMoreStory$Home;", true)
  | 2 => ("MoreStory", "trial", "LMoreStory$Trial;", true)
  | 3 => ("MoreStory", "reader", "LMoreStory$Reader;", true)
  | 4 => ("MoreStory", "tapes", "[[J", true)
  | 5 => ("MoreStory", "sorts", "[I", true)
  | 6 => ("MoreStory", "sizes", "[I", true)
  | 7 => ("MoreStory", "trace", "[I", true)
  | 8 => ("MoreStory", "tried", "[I", true)
  | 9 => ("MoreStory", "best", "[I", true)
  | 10 => ("MoreStory", "housed", "I", false)
  | _ => ("MoreStory", "imaged", "Z", false)
def tyX11 : Nat → FieldType := fun k => match k with
  | 0 => .object "MoreStory$Home"
  | 1 => .object "MoreStory$Home"
  | 2 => .object "MoreStory$Trial"
  | 3 => .object "MoreStory$Reader"
  | 4 => .array (.array .long)
  | 5 => .array .int
  | 6 => .array .int
  | 7 => .array .int
  | 8 => .array .int
  | 9 => .array .int
  | 10 => .int
  | _ => .boolean
abbrev wsX110 : List Cond := u_ws RX11 TX11 12
theorem nmX11 : ∀ a, a < 12 → ∀ b, b < 12 → a ≠ b → (TX11 a).2.1 ≠ (TX11 b).2.1 := by decide +kernel
theorem tyX11_ok : ∀ k, k < 12 → parseFieldDescriptor (TX11 k).2.2.1 = some (tyX11 k) := by decide +kernel
abbrev cX11_init : ByteArray := prog_1_method_1_code
def yX11_init : MethodName := ⟨RX11, "<init>", "()V"⟩
abbrev cX11_thing : ByteArray := prog_1_method_2_code
def yX11_thing : MethodName := ⟨RX11, "thing", "(II)I"⟩
abbrev cX11_parent : ByteArray := prog_1_method_3_code
def yX11_parent : MethodName := ⟨RX11, "parent", "(II)I"⟩
abbrev cX11_born : ByteArray := prog_1_method_4_code
def yX11_born : MethodName := ⟨RX11, "born", "(III)LMoreStory$Parent;"⟩
abbrev cX11_at : ByteArray := prog_1_method_5_code
def yX11_at : MethodName := ⟨RX11, "at", "(II)I"⟩
abbrev cX11_of : ByteArray := prog_1_method_6_code
def yX11_of : MethodName := ⟨RX11, "of", "(II)I"⟩
abbrev cX11_habit : ByteArray := prog_1_method_7_code
def yX11_habit : MethodName := ⟨RX11, "habit", "(II)I"⟩
abbrev cX11_row : ByteArray := prog_1_method_8_code
def yX11_row : MethodName := ⟨RX11, "row", "(III)I"⟩
abbrev cX11_feed : ByteArray := prog_1_method_9_code
def yX11_feed : MethodName := ⟨RX11, "feed", "(I)I"⟩
abbrev cX11_house : ByteArray := prog_1_method_10_code
def yX11_house : MethodName := ⟨RX11, "house", "()I"⟩
abbrev cX11_told : ByteArray := prog_1_method_11_code
def yX11_told : MethodName := ⟨RX11, "told", "(I)I"⟩
abbrev cX11_ask : ByteArray := prog_1_method_12_code
def yX11_ask : MethodName := ⟨RX11, "ask", "(I)I"⟩
abbrev cX11_night : ByteArray := prog_1_method_13_code
def yX11_night : MethodName := ⟨RX11, "night", "()I"⟩
abbrev cX11_will : ByteArray := prog_1_method_14_code
def yX11_will : MethodName := ⟨RX11, "will", "(I)I"⟩
abbrev cX11_on : ByteArray := prog_1_method_15_code
def yX11_on : MethodName := ⟨RX11, "on", "(III)I"⟩
abbrev cX11_with : ByteArray := prog_1_method_16_code
def yX11_with : MethodName := ⟨RX11, "with", "(I)I"⟩
abbrev cX11_earlier : ByteArray := prog_1_method_17_code
def yX11_earlier : MethodName := ⟨RX11, "earlier", "(II)Z"⟩
abbrev cX11_both : ByteArray := prog_1_method_18_code
def yX11_both : MethodName := ⟨RX11, "both", "(II)I"⟩
abbrev cX11_limit : ByteArray := prog_1_method_19_code
def yX11_limit : MethodName := ⟨RX11, "limit", "(II)I"⟩
abbrev cX11_without : ByteArray := prog_1_method_20_code
def yX11_without : MethodName := ⟨RX11, "without", "(I)I"⟩
abbrev cX11_order : ByteArray := prog_1_method_21_code
def yX11_order : MethodName := ⟨RX11, "order", "(II)I"⟩
abbrev cX11_bestOrder : ByteArray := prog_1_method_22_code
def yX11_bestOrder : MethodName := ⟨RX11, "bestOrder", "(LMoreStory$Parent;)I"⟩
abbrev cX11_nextOrder : ByteArray := prog_1_method_23_code
def yX11_nextOrder : MethodName := ⟨RX11, "nextOrder", "([II)Z"⟩
abbrev cX11_swap : ByteArray := prog_1_method_24_code
def yX11_swap : MethodName := ⟨RX11, "swap", "([III)V"⟩
abbrev cX11_coupons : ByteArray := prog_1_method_25_code
def yX11_coupons : MethodName := ⟨RX11, "coupons", "(I)I"⟩
abbrev cX11_evenings : ByteArray := prog_1_method_26_code
def yX11_evenings : MethodName := ⟨RX11, "evenings", "(III)I"⟩
abbrev cX11_hear : ByteArray := prog_1_method_27_code
def yX11_hear : MethodName := ⟨RX11, "hear", "(Z)I"⟩
abbrev cX11_hush : ByteArray := prog_1_method_28_code
def yX11_hush : MethodName := ⟨RX11, "hush", "()I"⟩
abbrev cX11_who : ByteArray := prog_1_method_29_code
def yX11_who : MethodName := ⟨RX11, "who", "()I"⟩
abbrev cX11_makesSo : ByteArray := prog_1_method_30_code
def yX11_makesSo : MethodName := ⟨RX11, "makesSo", "(LMoreStory$Parent;)Z"⟩
abbrev cX11_odds : ByteArray := prog_1_method_31_code
def yX11_odds : MethodName := ⟨RX11, "odds", "(II)J"⟩
abbrev cX11_mean : ByteArray := prog_1_method_32_code
def yX11_mean : MethodName := ⟨RX11, "mean", "(I)J"⟩
abbrev cX11_lowest : ByteArray := prog_1_method_33_code
def yX11_lowest : MethodName := ⟨RX11, "lowest", "(III)J"⟩
abbrev cX11_book : ByteArray := prog_1_method_34_code
def yX11_book : MethodName := ⟨RX11, "book", "(I)I"⟩
abbrev cX11_looked : ByteArray := prog_1_method_35_code
def yX11_looked : MethodName := ⟨RX11, "looked", "()I"⟩
abbrev cX11_judge : ByteArray := prog_1_method_36_code
def yX11_judge : MethodName := ⟨RX11, "judge", "(II)I"⟩
abbrev cX11_image : ByteArray := prog_1_method_37_code
def yX11_image : MethodName := ⟨RX11, "image", "()I"⟩
abbrev cX11_undo : ByteArray := prog_1_method_38_code
def yX11_undo : MethodName := ⟨RX11, "undo", "()I"⟩
abbrev cX11_act : ByteArray := prog_1_method_39_code
def yX11_act : MethodName := ⟨RX11, "act", "(III)I"⟩
abbrev cX11_trace : ByteArray := prog_1_method_40_code
def yX11_trace : MethodName := ⟨RX11, "trace", "(I)I"⟩
abbrev cX11_taken : ByteArray := prog_1_method_41_code
def yX11_taken : MethodName := ⟨RX11, "taken", "(II)I"⟩
abbrev cX11_count : ByteArray := prog_1_method_42_code
def yX11_count : MethodName := ⟨RX11, "count", "(I)I"⟩
abbrev cX11_tape : ByteArray := prog_1_method_43_code
def yX11_tape : MethodName := ⟨RX11, "tape", "(III)I"⟩
abbrev cX11_holds : ByteArray := prog_1_method_44_code
def yX11_holds : MethodName := ⟨RX11, "holds", "(IJ)Z"⟩
abbrev cX11_item : ByteArray := prog_1_method_45_code
def yX11_item : MethodName := ⟨RX11, "item", "(IIJ)I"⟩
abbrev cX11_cut : ByteArray := prog_1_method_46_code
def yX11_cut : MethodName := ⟨RX11, "cut", "(IJ)J"⟩
abbrev cX11_read : ByteArray := prog_1_method_47_code
def yX11_read : MethodName := ⟨RX11, "read", "(II)J"⟩
abbrev cX11_shift : ByteArray := prog_1_method_48_code
def yX11_shift : MethodName := ⟨RX11, "shift", "(IIIII)I"⟩
def RX12 : String := "MoreStoryModel"
def TX12 : u_T := fun k => match k with
  | 0 => ("MoreStoryModel", "things", "I", false)
  | 1 => ("MoreStoryModel", "parents", "I", false)
  | 2 => ("MoreStoryModel", "evening", "I", false)
  | 3 => ("MoreStoryModel", "clock", "I", false)
  | 4 => ("MoreStoryModel", "sleepy", "I", false)
  | 5 => ("MoreStoryModel", "nos", "I", false)
  | 6 => ("MoreStoryModel", "given", "I", false)
  | 7 => ("MoreStoryModel", "one", "I", false)
  | 8 => ("MoreStoryModel", "minutes", "[I", true)
  | 9 => ("MoreStoryModel", "sweet", "[I", true)
  | 10 => ("MoreStoryModel", "habit", "[I", true)
  | 11 => ("MoreStoryModel", "kind", "[I", true)
  | 12 => ("MoreStoryModel", "v", "[I", true)
  | 13 => ("MoreStoryModel", "rows", "[I", true)
  | 14 => ("MoreStoryModel", "houses", "I", false)
  | 15 => ("MoreStoryModel", "the", "I", false)
  | 16 => ("MoreStoryModel", "fed", "I", false)
  | 17 => ("MoreStoryModel", "at", "I", false)
  | 18 => ("MoreStoryModel", "digits", "I", false)
  | 19 => ("MoreStoryModel", "text", "[I", true)
  | 20 => ("MoreStoryModel", "clauses", "[I", true)
  | 21 => ("MoreStoryModel", "word", "[I", true)
  | 22 => ("MoreStoryModel", "number", "[I", true)
  | 23 => ("MoreStoryModel", "from", "[I", true)
  | 24 => ("MoreStoryModel", "to", "[I", true)
  | 25 => ("MoreStoryModel", "sign", "[I", true)
  | 26 => ("MoreStoryModel", "waits", "[I", true)
  | 27 => ("MoreStoryModel", "signs", "I", false)
  | 28 => ("MoreStoryModel", "waiting", "I", false)
  | 29 => ("MoreStoryModel", "open", "I", false)
  | 30 => ("MoreStoryModel", "letters", "[I", true)
  | 31 => ("MoreStoryModel", "pile", "[Z", true)
  | 32 => ("MoreStoryModel", "lateTold", "I", false)
  | 33 => ("MoreStoryModel", "coupons", "I", false)
  | 34 => ("MoreStoryModel", "away", "I", false)
  | 35 => ("MoreStoryModel", "spent", "I", false)
  | 36 => ("MoreStoryModel", "keptCoupons", "I", false)
  | 37 => ("MoreStoryModel", "keptEvening", "I", false)
  | 38 => ("MoreStoryModel", "keptClock", "I", false)
  | 39 => ("MoreStoryModel", "keptSleepy", "I", false)
  | 40 => ("MoreStoryModel", "keptNos", "I", false)
  | 41 => ("MoreStoryModel", "keptGiven", "I", false)
  | 42 => ("MoreStoryModel", "keptOne", "I", false)
  | 43 => ("MoreStoryModel", "keptHabit", "[I", true)
  | 44 => ("MoreStoryModel", "order", "[I", true)
  | 45 => ("MoreStoryModel", "bestOrder", "[I", true)
  | 46 => ("MoreStoryModel", "heards", "I", false)
  | 47 => ("MoreStoryModel", "heard", "[Z", true)
  | 48 => ("MoreStoryModel", "books", "I", false)
  | 49 => ("MoreStoryModel", "book", "[I", true)
  | 50 => ("MoreStoryModel", "hasImage", "Z", false)
  | 51 => ("MoreStoryModel", "imageThe", "I", false)
  | 52 => ("MoreStoryModel", "imageThings", "I", false)
  | 53 => ("MoreStoryModel", "imageParents", "I", false)
  | 54 => ("MoreStoryModel", "imageEvening", "I", false)
  | 55 => ("MoreStoryModel", "imageClock", "I", false)
  | 56 => ("MoreStoryModel", "imageSleepy", "I", false)
  | 57 => ("MoreStoryModel", "imageNos", "I", false)
  | 58 => ("MoreStoryModel", "imageGiven", "I", false)
  | 59 => ("MoreStoryModel", "imageOne", "I", false)
  | 60 => ("MoreStoryModel", "imageHeards", "I", false)
  | 61 => ("MoreStoryModel", "imageBooks", "I", false)
  | 62 => ("MoreStoryModel", "imageMinutes", "[I", true)
  | 63 => ("MoreStoryModel", "imageSweet", "[I", true)
  | 64 => ("MoreStoryModel", "imageHabit", "[I", true)
  | 65 => ("MoreStoryModel", "imageKind", "[I", true)
  | 66 => ("MoreStoryModel", "imageV", "[I", true)
  | 67 => ("MoreStoryModel", "imageRows", "[I", true)
  | 68 => ("MoreStoryModel", "imageBook", "[I", true)
  | 69 => ("MoreStoryModel", "imageHeard", "[Z", true)
  | 70 => ("MoreStoryModel", "ran", "I", false)
  | 71 => ("MoreStoryModel", "bodies", "[I", true)
  | 72 => ("MoreStoryModel", "sort", "[I", true)
  | 73 => ("MoreStoryModel", "length", "[I", true)
  | 74 => ("MoreStoryModel", "item", "[J", true)
  | _ => ("MoreStoryModel", "aside", "[J", true)
def tyX12 : Nat → FieldType := fun k => match k with
  | 0 => .int
  | 1 => .int
  | 2 => .int
  | 3 => .int
  | 4 => .int
  | 5 => .int
  | 6 => .int
  | 7 => .int
  | 8 => .array .int
  | 9 => .array .int
  | 10 => .array .int
  | 11 => .array .int
  | 12 => .array .int
  | 13 => .array .int
  | 14 => .int
  | 15 => .int
  | 16 => .int
  | 17 => .int
  | 18 => .int
  | 19 => .array .int
  | 20 => .array .int
  | 21 => .array .int
  | 22 => .array .int
  | 23 => .array .int
  | 24 => .array .int
  | 25 => .array .int
  | 26 => .array .int
  | 27 => .int
  | 28 => .int
  | 29 => .int
  | 30 => .array .int
  | 31 => .array .boolean
  | 32 => .int
  | 33 => .int
  | 34 => .int
  | 35 => .int
  | 36 => .int
  | 37 => .int
  | 38 => .int
  | 39 => .int
  | 40 => .int
  | 41 => .int
  | 42 => .int
  | 43 => .array .int
  | 44 => .array .int
  | 45 => .array .int
  | 46 => .int
  | 47 => .array .boolean
  | 48 => .int
  | 49 => .array .int
  | 50 => .boolean
  | 51 => .int
  | 52 => .int
  | 53 => .int
  | 54 => .int
  | 55 => .int
  | 56 => .int
  | 57 => .int
  | 58 => .int
  | 59 => .int
  | 60 => .int
  | 61 => .int
  | 62 => .array .int
  | 63 => .array .int
  | 64 => .array .int
  | 65 => .array .int
  | 66 => .array .int
  | 67 => .array .int
  | 68 => .array .int
  | 69 => .array .boolean
  | 70 => .int
  | 71 => .array .int
  | 72 => .array .int
  | 73 => .array .int
  | 74 => .array .long
  | _ => .array .long
abbrev wsX120 : List Cond := u_ws RX12 TX12 76
theorem nmX12 : ∀ a, a < 76 → ∀ b, b < 76 → a ≠ b → (TX12 a).2.1 ≠ (TX12 b).2.1 := by decide +kernel
theorem tyX12_ok : ∀ k, k < 76 → parseFieldDescriptor (TX12 k).2.2.1 = some (tyX12 k) := by decide +kernel
abbrev cX12_init : ByteArray := prog_14_method_1_code
def yX12_init : MethodName := ⟨RX12, "<init>", "()V"⟩
abbrev cX12_in : ByteArray := prog_14_method_2_code
def yX12_in : MethodName := ⟨RX12, "in", "(III)Z"⟩
abbrev cX12_has : ByteArray := prog_14_method_3_code
def yX12_has : MethodName := ⟨RX12, "has", "(II)Z"⟩
abbrev cX12_isThing : ByteArray := prog_14_method_4_code
def yX12_isThing : MethodName := ⟨RX12, "isThing", "(I)Z"⟩
abbrev cX12_isParent : ByteArray := prog_14_method_5_code
def yX12_isParent : MethodName := ⟨RX12, "isParent", "(I)Z"⟩
abbrev cX12_thing : ByteArray := prog_14_method_6_code
def yX12_thing : MethodName := ⟨RX12, "thing", "(II)I"⟩
abbrev cX12_parent : ByteArray := prog_14_method_7_code
def yX12_parent : MethodName := ⟨RX12, "parent", "(II)I"⟩
abbrev cX12_at : ByteArray := prog_14_method_8_code
def yX12_at : MethodName := ⟨RX12, "at", "(II)I"⟩
abbrev cX12_habit : ByteArray := prog_14_method_9_code
def yX12_habit : MethodName := ⟨RX12, "habit", "(II)I"⟩
abbrev cX12_row : ByteArray := prog_14_method_10_code
def yX12_row : MethodName := ⟨RX12, "row", "(III)I"⟩
abbrev cX12_feed : ByteArray := prog_14_method_11_code
def yX12_feed : MethodName := ⟨RX12, "feed", "(I)I"⟩
abbrev cX12_next : ByteArray := prog_14_method_12_code
def yX12_next : MethodName := ⟨RX12, "next", "()I"⟩
abbrev cX12_takes : ByteArray := prog_14_method_13_code
def yX12_takes : MethodName := ⟨RX12, "takes", "(I)Z"⟩
abbrev cX12_takesWord : ByteArray := prog_14_method_14_code
def yX12_takesWord : MethodName := ⟨RX12, "takesWord", "(II)Z"⟩
abbrev cX12_isDigit : ByteArray := prog_14_method_15_code
def yX12_isDigit : MethodName := ⟨RX12, "isDigit", "()Z"⟩
abbrev cX12_takesNumber : ByteArray := prog_14_method_16_code
def yX12_takesNumber : MethodName := ⟨RX12, "takesNumber", "()Z"⟩
abbrev cX12_emits : ByteArray := prog_14_method_17_code
def yX12_emits : MethodName := ⟨RX12, "emits", "(I)V"⟩
abbrev cX12_whole : ByteArray := prog_14_method_18_code
def yX12_whole : MethodName := ⟨RX12, "whole", "()V"⟩
abbrev cX12_settle : ByteArray := prog_14_method_19_code
def yX12_settle : MethodName := ⟨RX12, "settle", "(I)V"⟩
abbrev cX12_place : ByteArray := prog_14_method_20_code
def yX12_place : MethodName := ⟨RX12, "place", "(I)I"⟩
abbrev cX12_takesTest : ByteArray := prog_14_method_21_code
def yX12_takesTest : MethodName := ⟨RX12, "takesTest", "()Z"⟩
abbrev cX12_takesE : ByteArray := prog_14_method_22_code
def yX12_takesE : MethodName := ⟨RX12, "takesE", "(I)Z"⟩
abbrev cX12_takesHead : ByteArray := prog_14_method_23_code
def yX12_takesHead : MethodName := ⟨RX12, "takesHead", "(I)Z"⟩
abbrev cX12_takesClause : ByteArray := prog_14_method_24_code
def yX12_takesClause : MethodName := ⟨RX12, "takesClause", "(I)Z"⟩
abbrev cX12_goesText : ByteArray := prog_14_method_25_code
def yX12_goesText : MethodName := ⟨RX12, "goesText", "(I)Z"⟩
abbrev cX12_house : ByteArray := prog_14_method_26_code
def yX12_house : MethodName := ⟨RX12, "house", "()I"⟩
abbrev cX12_begin : ByteArray := prog_14_method_27_code
def yX12_begin : MethodName := ⟨RX12, "begin", "()I"⟩
abbrev cX12_behind : ByteArray := prog_14_method_28_code
def yX12_behind : MethodName := ⟨RX12, "behind", "()I"⟩
abbrev cX12_lastOf : ByteArray := prog_14_method_29_code
def yX12_lastOf : MethodName := ⟨RX12, "lastOf", "(II)I"⟩
abbrev cX12_factOf : ByteArray := prog_14_method_30_code
def yX12_factOf : MethodName := ⟨RX12, "factOf", "(III)I"⟩
abbrev cX12_holds : ByteArray := prog_14_method_31_code
def yX12_holds : MethodName := ⟨RX12, "holds", "(III)Z"⟩
abbrev cX12_sumOf : ByteArray := prog_14_method_32_code
def yX12_sumOf : MethodName := ⟨RX12, "sumOf", "(IIII)I"⟩
abbrev cX12_late : ByteArray := prog_14_method_33_code
def yX12_late : MethodName := ⟨RX12, "late", "()I"⟩
abbrev cX12_deep : ByteArray := prog_14_method_34_code
def yX12_deep : MethodName := ⟨RX12, "deep", "()I"⟩
abbrev cX12_how : ByteArray := prog_14_method_35_code
def yX12_how : MethodName := ⟨RX12, "how", "()I"⟩
abbrev cX12_isEarly : ByteArray := prog_14_method_36_code
def yX12_isEarly : MethodName := ⟨RX12, "isEarly", "(I)Z"⟩
abbrev cX12_gives : ByteArray := prog_14_method_37_code
def yX12_gives : MethodName := ⟨RX12, "gives", "(II)Z"⟩
abbrev cX12_of : ByteArray := prog_14_method_38_code
def yX12_of : MethodName := ⟨RX12, "of", "(II)I"⟩
abbrev cX12_told : ByteArray := prog_14_method_39_code
def yX12_told : MethodName := ⟨RX12, "told", "(I)I"⟩
abbrev cX12_nextOf : ByteArray := prog_14_method_40_code
def yX12_nextOf : MethodName := ⟨RX12, "nextOf", "(I)I"⟩
abbrev cX12_asks : ByteArray := prog_14_method_41_code
def yX12_asks : MethodName := ⟨RX12, "asks", "(II)Z"⟩
abbrev cX12_isOver : ByteArray := prog_14_method_42_code
def yX12_isOver : MethodName := ⟨RX12, "isOver", "()Z"⟩
abbrev cX12_goAsk : ByteArray := prog_14_method_43_code
def yX12_goAsk : MethodName := ⟨RX12, "goAsk", "(I)Z"⟩
abbrev cX12_ask : ByteArray := prog_14_method_44_code
def yX12_ask : MethodName := ⟨RX12, "ask", "(I)I"⟩
abbrev cX12_goNight : ByteArray := prog_14_method_45_code
def yX12_goNight : MethodName := ⟨RX12, "goNight", "()V"⟩
abbrev cX12_night : ByteArray := prog_14_method_46_code
def yX12_night : MethodName := ⟨RX12, "night", "()I"⟩
abbrev cX12_will : ByteArray := prog_14_method_47_code
def yX12_will : MethodName := ⟨RX12, "will", "(I)I"⟩
abbrev cX12_save : ByteArray := prog_14_method_48_code
def yX12_save : MethodName := ⟨RX12, "save", "()V"⟩
abbrev cX12_putBack : ByteArray := prog_14_method_49_code
def yX12_putBack : MethodName := ⟨RX12, "putBack", "()V"⟩
abbrev cX12_goAsks : ByteArray := prog_14_method_50_code
def yX12_goAsks : MethodName := ⟨RX12, "goAsks", "(II)I"⟩
abbrev cX12_on : ByteArray := prog_14_method_51_code
def yX12_on : MethodName := ⟨RX12, "on", "(III)I"⟩
abbrev cX12_sleepsBy : ByteArray := prog_14_method_52_code
def yX12_sleepsBy : MethodName := ⟨RX12, "sleepsBy", "(I)I"⟩
abbrev cX12_with : ByteArray := prog_14_method_53_code
def yX12_with : MethodName := ⟨RX12, "with", "(I)I"⟩
abbrev cX12_both : ByteArray := prog_14_method_54_code
def yX12_both : MethodName := ⟨RX12, "both", "(II)I"⟩
abbrev cX12_limit : ByteArray := prog_14_method_55_code
def yX12_limit : MethodName := ⟨RX12, "limit", "(II)I"⟩
abbrev cX12_without : ByteArray := prog_14_method_56_code
def yX12_without : MethodName := ⟨RX12, "without", "(I)I"⟩
abbrev cX12_layOrder : ByteArray := prog_14_method_57_code
def yX12_layOrder : MethodName := ⟨RX12, "layOrder", "(I)Z"⟩
abbrev cX12_spentAsOrdered : ByteArray := prog_14_method_58_code
def yX12_spentAsOrdered : MethodName := ⟨RX12, "spentAsOrdered", "(I)I"⟩
abbrev cX12_order : ByteArray := prog_14_method_59_code
def yX12_order : MethodName := ⟨RX12, "order", "(II)I"⟩
abbrev cX12_coupons : ByteArray := prog_14_method_60_code
def yX12_coupons : MethodName := ⟨RX12, "coupons", "(I)I"⟩
abbrev cX12_evenings : ByteArray := prog_14_method_61_code
def yX12_evenings : MethodName := ⟨RX12, "evenings", "(III)I"⟩
abbrev cX12_hear : ByteArray := prog_14_method_62_code
def yX12_hear : MethodName := ⟨RX12, "hear", "(Z)I"⟩
abbrev cX12_hush : ByteArray := prog_14_method_63_code
def yX12_hush : MethodName := ⟨RX12, "hush", "()I"⟩
abbrev cX12_isHeard : ByteArray := prog_14_method_64_code
def yX12_isHeard : MethodName := ⟨RX12, "isHeard", "(I)Z"⟩
abbrev cX12_who : ByteArray := prog_14_method_65_code
def yX12_who : MethodName := ⟨RX12, "who", "()I"⟩
abbrev cX12_divisor : ByteArray := prog_14_method_66_code
def yX12_divisor : MethodName := ⟨RX12, "divisor", "(II)I"⟩
abbrev cX12_lowest : ByteArray := prog_14_method_67_code
def yX12_lowest : MethodName := ⟨RX12, "lowest", "(III)J"⟩
abbrev cX12_odds : ByteArray := prog_14_method_68_code
def yX12_odds : MethodName := ⟨RX12, "odds", "(II)J"⟩
abbrev cX12_mean : ByteArray := prog_14_method_69_code
def yX12_mean : MethodName := ⟨RX12, "mean", "(I)J"⟩
abbrev cX12_book : ByteArray := prog_14_method_70_code
def yX12_book : MethodName := ⟨RX12, "book", "(I)I"⟩
abbrev cX12_looked : ByteArray := prog_14_method_71_code
def yX12_looked : MethodName := ⟨RX12, "looked", "()I"⟩
abbrev cX12_judge : ByteArray := prog_14_method_72_code
def yX12_judge : MethodName := ⟨RX12, "judge", "(II)I"⟩
abbrev cX12_image : ByteArray := prog_14_method_73_code
def yX12_image : MethodName := ⟨RX12, "image", "()I"⟩
abbrev cX12_undo : ByteArray := prog_14_method_74_code
def yX12_undo : MethodName := ⟨RX12, "undo", "()I"⟩
abbrev cX12_body : ByteArray := prog_14_method_75_code
def yX12_body : MethodName := ⟨RX12, "body", "(I)V"⟩
abbrev cX12_parentHears : ByteArray := prog_14_method_76_code
def yX12_parentHears : MethodName := ⟨RX12, "parentHears", "(II)I"⟩
abbrev cX12_hearsAct : ByteArray := prog_14_method_77_code
def yX12_hearsAct : MethodName := ⟨RX12, "hearsAct", "(II)I"⟩
abbrev cX12_parentGives : ByteArray := prog_14_method_78_code
def yX12_parentGives : MethodName := ⟨RX12, "parentGives", "(II)I"⟩
abbrev cX12_softGives : ByteArray := prog_14_method_79_code
def yX12_softGives : MethodName := ⟨RX12, "softGives", "(II)I"⟩
abbrev cX12_givesAct : ByteArray := prog_14_method_80_code
def yX12_givesAct : MethodName := ⟨RX12, "givesAct", "(II)I"⟩
abbrev cX12_parentTells : ByteArray := prog_14_method_81_code
def yX12_parentTells : MethodName := ⟨RX12, "parentTells", "(II)I"⟩
abbrev cX12_tellsAct : ByteArray := prog_14_method_82_code
def yX12_tellsAct : MethodName := ⟨RX12, "tellsAct", "(II)I"⟩
abbrev cX12_act : ByteArray := prog_14_method_83_code
def yX12_act : MethodName := ⟨RX12, "act", "(III)I"⟩
abbrev cX12_trace : ByteArray := prog_14_method_84_code
def yX12_trace : MethodName := ⟨RX12, "trace", "(I)I"⟩
abbrev cX12_taken : ByteArray := prog_14_method_85_code
def yX12_taken : MethodName := ⟨RX12, "taken", "(II)I"⟩
abbrev cX12_count : ByteArray := prog_14_method_86_code
def yX12_count : MethodName := ⟨RX12, "count", "(I)I"⟩
abbrev cX12_isTape : ByteArray := prog_14_method_87_code
def yX12_isTape : MethodName := ⟨RX12, "isTape", "(I)Z"⟩
abbrev cX12_tape : ByteArray := prog_14_method_88_code
def yX12_tape : MethodName := ⟨RX12, "tape", "(III)I"⟩
abbrev cX12_narrow : ByteArray := prog_14_method_89_code
def yX12_narrow : MethodName := ⟨RX12, "narrow", "(IJ)J"⟩
abbrev cX12_item : ByteArray := prog_14_method_90_code
def yX12_item : MethodName := ⟨RX12, "item", "(IIJ)I"⟩
abbrev cX12_read : ByteArray := prog_14_method_91_code
def yX12_read : MethodName := ⟨RX12, "read", "(II)J"⟩
abbrev cX12_shift : ByteArray := prog_14_method_92_code
def yX12_shift : MethodName := ⟨RX12, "shift", "(IIIII)I"⟩
def RJ11 : String := "java/lang/Character"
def TJ11 : u_T := fun k => match k with
  | _ => ("", "", "", false)
def tyJ11 : Nat → FieldType := fun k => match k with
  | _ => .int
abbrev wsJ110 : List Cond := u_ws RJ11 TJ11 0
theorem nmJ11 : ∀ a, a < 0 → ∀ b, b < 0 → a ≠ b → (TJ11 a).2.1 ≠ (TJ11 b).2.1 := by decide +kernel
theorem tyJ11_ok : ∀ k, k < 0 → parseFieldDescriptor (TJ11 k).2.2.1 = some (tyJ11 k) := by decide +kernel
abbrev cJ11_isValidCodePoint_9a6ad : ByteArray := prog_15_method_11_code
def yJ11_isValidCodePoint_9a6ad : MethodName := ⟨RJ11, "isValidCodePoint", "(I)Z"⟩
abbrev cJ11_highSurrogate_5068e : ByteArray := prog_15_method_28_code
def yJ11_highSurrogate_5068e : MethodName := ⟨RJ11, "highSurrogate", "(I)C"⟩
abbrev cJ11_lowSurrogate_5068e : ByteArray := prog_15_method_29_code
def yJ11_lowSurrogate_5068e : MethodName := ⟨RJ11, "lowSurrogate", "(I)C"⟩
def RJ9 : String := "java/lang/Math"
def TJ9 : u_T := fun k => match k with
  | _ => ("", "", "", false)
def tyJ9 : Nat → FieldType := fun k => match k with
  | _ => .int
abbrev wsJ90 : List Cond := u_ws RJ9 TJ9 0
theorem nmJ9 : ∀ a, a < 0 → ∀ b, b < 0 → a ≠ b → (TJ9 a).2.1 ≠ (TJ9 b).2.1 := by decide +kernel
theorem tyJ9_ok : ∀ k, k < 0 → parseFieldDescriptor (TJ9 k).2.2.1 = some (tyJ9 k) := by decide +kernel
abbrev cJ9_max_7cf53 : ByteArray := prog_16_method_65_code
def yJ9_max_7cf53 : MethodName := ⟨RJ9, "max", "(II)I"⟩
abbrev cJ9_min_7cf53 : ByteArray := prog_16_method_69_code
def yJ9_min_7cf53 : MethodName := ⟨RJ9, "min", "(II)I"⟩
def RJ0 : String := "java/lang/String"
def TJ0 : u_T := fun k => match k with
  | _ => ("", "", "", false)
def tyJ0 : Nat → FieldType := fun k => match k with
  | _ => .int
abbrev wsJ00 : List Cond := u_ws RJ0 TJ0 0
theorem nmJ0 : ∀ a, a < 0 → ∀ b, b < 0 → a ≠ b → (TJ0 a).2.1 ≠ (TJ0 b).2.1 := by decide +kernel
theorem tyJ0_ok : ∀ k, k < 0 → parseFieldDescriptor (TJ0 k).2.2.1 = some (tyJ0 k) := by decide +kernel
abbrev cJ0_length_8abf5 : ByteArray := prog_17_method_54_code
def yJ0_length_8abf5 : MethodName := ⟨RJ0, "length", "()I"⟩
abbrev cJ0_charAt_5068e : ByteArray := prog_17_method_56_code
def yJ0_charAt_5068e : MethodName := ⟨RJ0, "charAt", "(I)C"⟩
abbrev cJ0_indexOf_0f7a4 : ByteArray := prog_17_method_79_code
def yJ0_indexOf_0f7a4 : MethodName := ⟨RJ0, "indexOf", "(I)I"⟩
abbrev cJ0_indexOf_7cf53 : ByteArray := prog_17_method_80_code
def yJ0_indexOf_7cf53 : MethodName := ⟨RJ0, "indexOf", "(II)I"⟩
abbrev cJ0_coder_7d493 : ByteArray := prog_17_method_152_code
def yJ0_coder_7d493 : MethodName := ⟨RJ0, "coder", "()B"⟩
abbrev cJ0_isLatin1_aae02 : ByteArray := prog_17_method_154_code
def yJ0_isLatin1_aae02 : MethodName := ⟨RJ0, "isLatin1", "()Z"⟩
abbrev cJ0_checkIndex_df160 : ByteArray := prog_17_method_155_code
def yJ0_checkIndex_df160 : MethodName := ⟨RJ0, "checkIndex", "(II)V"⟩
abbrev cJ0_checkBoundsBeginEnd_23922 : ByteArray := prog_17_method_158_code
def yJ0_checkBoundsBeginEnd_23922 : MethodName := ⟨RJ0, "checkBoundsBeginEnd", "(III)V"⟩
def RJ1 : String := "java/lang/StringLatin1"
def TJ1 : u_T := fun k => match k with
  | _ => ("", "", "", false)
def tyJ1 : Nat → FieldType := fun k => match k with
  | _ => .int
abbrev wsJ10 : List Cond := u_ws RJ1 TJ1 0
theorem nmJ1 : ∀ a, a < 0 → ∀ b, b < 0 → a ≠ b → (TJ1 a).2.1 ≠ (TJ1 b).2.1 := by decide +kernel
theorem tyJ1_ok : ∀ k, k < 0 → parseFieldDescriptor (TJ1 k).2.2.1 = some (tyJ1 k) := by decide +kernel
abbrev cJ1_charAt_3b067 : ByteArray := prog_18_method_2_code
def yJ1_charAt_3b067 : MethodName := ⟨RJ1, "charAt", "([BI)C"⟩
abbrev cJ1_canEncode_9a6ad : ByteArray := prog_18_method_4_code
def yJ1_canEncode_9a6ad : MethodName := ⟨RJ1, "canEncode", "(I)Z"⟩
abbrev cJ1_indexOf_4cfef : ByteArray := prog_18_method_22_code
def yJ1_indexOf_4cfef : MethodName := ⟨RJ1, "indexOf", "([BIII)I"⟩
abbrev cJ1_indexOfChar_4cfef : ByteArray := prog_18_method_23_code
def yJ1_indexOfChar_4cfef : MethodName := ⟨RJ1, "indexOfChar", "([BIII)I"⟩
def RJ2 : String := "java/lang/StringUTF16"
def TJ2 : u_T := fun k => match k with
  | _ => ("", "", "", false)
def tyJ2 : Nat → FieldType := fun k => match k with
  | _ => .int
abbrev wsJ20 : List Cond := u_ws RJ2 TJ2 0
theorem nmJ2 : ∀ a, a < 0 → ∀ b, b < 0 → a ≠ b → (TJ2 a).2.1 ≠ (TJ2 b).2.1 := by decide +kernel
theorem tyJ2_ok : ∀ k, k < 0 → parseFieldDescriptor (TJ2 k).2.2.1 = some (tyJ2 k) := by decide +kernel
abbrev cJ2_getChar_3b067 : ByteArray := prog_19_method_5_code
def yJ2_getChar_3b067 : MethodName := ⟨RJ2, "getChar", "([BI)C"⟩
abbrev cJ2_length_9d52b : ByteArray := prog_19_method_6_code
def yJ2_length_9d52b : MethodName := ⟨RJ2, "length", "([B)I"⟩
abbrev cJ2_indexOf_4cfef : ByteArray := prog_19_method_40_code
def yJ2_indexOf_4cfef : MethodName := ⟨RJ2, "indexOf", "([BIII)I"⟩
abbrev cJ2_indexOfChar_4cfef : ByteArray := prog_19_method_47_code
def yJ2_indexOfChar_4cfef : MethodName := ⟨RJ2, "indexOfChar", "([BIII)I"⟩
abbrev cJ2_indexOfCharUnsafe_4cfef : ByteArray := prog_19_method_48_code
def yJ2_indexOfCharUnsafe_4cfef : MethodName := ⟨RJ2, "indexOfCharUnsafe", "([BIII)I"⟩
abbrev cJ2_indexOfSupplementary_4cfef : ByteArray := prog_19_method_49_code
def yJ2_indexOfSupplementary_4cfef : MethodName := ⟨RJ2, "indexOfSupplementary", "([BIII)I"⟩
abbrev cJ2_charAt_3b067 : ByteArray := prog_19_method_83_code
def yJ2_charAt_3b067 : MethodName := ⟨RJ2, "charAt", "([BI)C"⟩
abbrev cJ2_checkIndex_2214a : ByteArray := prog_19_method_91_code
def yJ2_checkIndex_2214a : MethodName := ⟨RJ2, "checkIndex", "(I[B)V"⟩
abbrev cJ2_checkBoundsBeginEnd_d044e : ByteArray := prog_19_method_93_code
def yJ2_checkBoundsBeginEnd_d044e : MethodName := ⟨RJ2, "checkBoundsBeginEnd", "(II[B)V"⟩
def RJ10 : String := "java/lang/System"
def TJ10 : u_T := fun k => match k with
  | _ => ("", "", "", false)
def tyJ10 : Nat → FieldType := fun k => match k with
  | _ => .int
abbrev wsJ100 : List Cond := u_ws RJ10 TJ10 0
theorem nmJ10 : ∀ a, a < 0 → ∀ b, b < 0 → a ≠ b → (TJ10 a).2.1 ≠ (TJ10 b).2.1 := by decide +kernel
theorem tyJ10_ok : ∀ k, k < 0 → parseFieldDescriptor (TJ10 k).2.2.1 = some (tyJ10 k) := by decide +kernel
def RJ3 : String := "jdk/internal/util/Preconditions"
def TJ3 : u_T := fun k => match k with
  | _ => ("", "", "", false)
def tyJ3 : Nat → FieldType := fun k => match k with
  | _ => .int
abbrev wsJ30 : List Cond := u_ws RJ3 TJ3 0
theorem nmJ3 : ∀ a, a < 0 → ∀ b, b < 0 → a ≠ b → (TJ3 a).2.1 ≠ (TJ3 b).2.1 := by decide +kernel
theorem tyJ3_ok : ∀ k, k < 0 → parseFieldDescriptor (TJ3 k).2.2.1 = some (tyJ3 k) := by decide +kernel
abbrev cJ3_checkIndex_8e157 : ByteArray := prog_21_method_11_code
def yJ3_checkIndex_8e157 : MethodName := ⟨RJ3, "checkIndex", "(IILjava/util/function/BiFunction;)I"⟩
abbrev cJ3_checkFromToIndex_8c36e : ByteArray := prog_21_method_12_code
def yJ3_checkFromToIndex_8c36e : MethodName := ⟨RJ3, "checkFromToIndex", "(IIILjava/util/function/BiFunction;)I"⟩
def RL : String := "MoreStoryLaw"
abbrev cL_law : ByteArray := code
def yL_law : MethodName := ⟨RL, "law", "([I)Z"⟩
def wsL_law_r1 : List Cond := [Cond.classLink RL 7 RX11, Cond.instantiable RX11 12, Cond.initialized RX11, Cond.classLink RL 10 RX12, Cond.instantiable RX12 76, Cond.initialized RX12, Cond.constantLong RL 160 (4294967295), Cond.methodLink RL 9 yX11_init, Cond.instanceMethod yX11_init, Cond.code yX11_init cX11_init 2 none, Cond.methodLink RX11 3 objectInit, Cond.instanceMethod objectInit, Cond.code objectInit ⟨#[0xb1]⟩ 1 none, Cond.classLink RX11 9 RX1, Cond.instantiable RX1 20, Cond.initialized RX1, Cond.fieldLink RX11 12 "MoreStory" "now" "LMoreStory$Home;", Cond.fieldLink RX11 18 "MoreStory" "kept" "LMoreStory$Home;", Cond.classLink RX11 21 RX10, Cond.instantiable RX10 7, Cond.initialized RX10, Cond.fieldLink RX11 24 "MoreStory" "trial" "LMoreStory$Trial;", Cond.classLink RX11 28 RX5, Cond.instantiable RX5 9]
def wsL_law_r2 : List Cond := [Cond.initialized RX5, Cond.fieldLink RX11 31 "MoreStory" "reader" "LMoreStory$Reader;", Cond.classLink RX11 35 "[[J", Cond.arrayClass .long, Cond.fieldLink RX11 37 "MoreStory" "tapes" "[[J", Cond.arrayClass .int, Cond.fieldLink RX11 40 "MoreStory" "sorts" "[I", Cond.fieldLink RX11 44 "MoreStory" "sizes" "[I", Cond.fieldLink RX11 47 "MoreStory" "trace" "[I", Cond.fieldLink RX11 50 "MoreStory" "tried" "[I", Cond.fieldLink RX11 53 "MoreStory" "best" "[I", Cond.instanceMethod yX1_init, Cond.code yX1_init cX1_init 1 none, Cond.methodLink RX1 3 objectInit, Cond.fieldLink RX1 9 "MoreStory$Home" "minutes" "[I", Cond.fieldLink RX1 15 "MoreStory$Home" "sweet" "[I", Cond.fieldLink RX1 18 "MoreStory$Home" "habit" "[I", Cond.classLink RX1 21 RX4, Cond.fieldLink RX1 23 "MoreStory$Home" "persons" "[LMoreStory$Parent;", Cond.fieldLink RX1 27 "MoreStory$Home" "rows" "[I", Cond.arrayClass .boolean, Cond.fieldLink RX1 30 "MoreStory$Home" "said" "[Z", Cond.fieldLink RX1 34 "MoreStory$Home" "book" "[I", Cond.fieldLink RX1 37 "MoreStory$Home" "late" "I"]
def wsL_law_r3 : List Cond := [Cond.fieldLink RX1 41 "MoreStory$Home" "deep" "I", Cond.instanceMethod yX10_init, Cond.code yX10_init cX10_init 1 none, Cond.methodLink RX10 3 objectInit, Cond.classLink RX10 9 RX1, Cond.fieldLink RX10 12 "MoreStory$Trial" "home" "LMoreStory$Home;", Cond.fieldLink RX10 18 "MoreStory$Trial" "turn" "[I", Cond.instanceMethod yX5_init, Cond.code yX5_init cX5_init 1 none, Cond.methodLink RX5 3 objectInit, Cond.fieldLink RX5 9 "MoreStory$Reader" "text" "[I", Cond.fieldLink RX5 15 "MoreStory$Reader" "code" "[I", Cond.fieldLink RX5 18 "MoreStory$Reader" "words" "[I", Cond.fieldLink RX5 21 "MoreStory$Reader" "numbers" "[I", Cond.fieldLink RX5 24 "MoreStory$Reader" "ends" "[I", Cond.methodLink RL 12 yX12_init, Cond.instanceMethod yX12_init, Cond.code yX12_init cX12_init 1 none, Cond.methodLink RX12 1 objectInit, Cond.fieldLink RX12 7 "MoreStoryModel" "things" "I", Cond.fieldLink RX12 13 "MoreStoryModel" "parents" "I", Cond.fieldLink RX12 16 "MoreStoryModel" "evening" "I", Cond.fieldLink RX12 19 "MoreStoryModel" "clock" "I", Cond.fieldLink RX12 22 "MoreStoryModel" "sleepy" "I"]
def wsL_law_r4 : List Cond := [Cond.fieldLink RX12 25 "MoreStoryModel" "nos" "I", Cond.fieldLink RX12 28 "MoreStoryModel" "given" "I", Cond.fieldLink RX12 31 "MoreStoryModel" "one" "I", Cond.fieldLink RX12 34 "MoreStoryModel" "minutes" "[I", Cond.fieldLink RX12 38 "MoreStoryModel" "sweet" "[I", Cond.fieldLink RX12 41 "MoreStoryModel" "habit" "[I", Cond.fieldLink RX12 44 "MoreStoryModel" "kind" "[I", Cond.fieldLink RX12 47 "MoreStoryModel" "v" "[I", Cond.fieldLink RX12 50 "MoreStoryModel" "rows" "[I", Cond.fieldLink RX12 53 "MoreStoryModel" "houses" "I", Cond.fieldLink RX12 56 "MoreStoryModel" "the" "I", Cond.fieldLink RX12 59 "MoreStoryModel" "fed" "I", Cond.fieldLink RX12 62 "MoreStoryModel" "at" "I", Cond.fieldLink RX12 65 "MoreStoryModel" "digits" "I", Cond.fieldLink RX12 68 "MoreStoryModel" "text" "[I", Cond.fieldLink RX12 71 "MoreStoryModel" "clauses" "[I", Cond.fieldLink RX12 74 "MoreStoryModel" "word" "[I", Cond.fieldLink RX12 77 "MoreStoryModel" "number" "[I", Cond.fieldLink RX12 80 "MoreStoryModel" "from" "[I", Cond.fieldLink RX12 83 "MoreStoryModel" "to" "[I", Cond.fieldLink RX12 86 "MoreStoryModel" "sign" "[I", Cond.fieldLink RX12 89 "MoreStoryModel" "waits" "[I", Cond.fieldLink RX12 92 "MoreStoryModel" "signs" "I", Cond.fieldLink RX12 95 "MoreStoryModel" "waiting" "I"]
def wsL_law_r5 : List Cond := [Cond.fieldLink RX12 98 "MoreStoryModel" "open" "I", Cond.fieldLink RX12 101 "MoreStoryModel" "letters" "[I", Cond.fieldLink RX12 104 "MoreStoryModel" "pile" "[Z", Cond.fieldLink RX12 108 "MoreStoryModel" "lateTold" "I", Cond.fieldLink RX12 111 "MoreStoryModel" "coupons" "I", Cond.fieldLink RX12 114 "MoreStoryModel" "away" "I", Cond.fieldLink RX12 117 "MoreStoryModel" "spent" "I", Cond.fieldLink RX12 120 "MoreStoryModel" "keptCoupons" "I", Cond.fieldLink RX12 123 "MoreStoryModel" "keptEvening" "I", Cond.fieldLink RX12 126 "MoreStoryModel" "keptClock" "I", Cond.fieldLink RX12 129 "MoreStoryModel" "keptSleepy" "I", Cond.fieldLink RX12 132 "MoreStoryModel" "keptNos" "I", Cond.fieldLink RX12 135 "MoreStoryModel" "keptGiven" "I", Cond.fieldLink RX12 138 "MoreStoryModel" "keptOne" "I", Cond.fieldLink RX12 141 "MoreStoryModel" "keptHabit" "[I", Cond.fieldLink RX12 144 "MoreStoryModel" "order" "[I", Cond.fieldLink RX12 147 "MoreStoryModel" "bestOrder" "[I", Cond.fieldLink RX12 150 "MoreStoryModel" "heards" "I", Cond.fieldLink RX12 153 "MoreStoryModel" "heard" "[Z", Cond.fieldLink RX12 156 "MoreStoryModel" "books" "I", Cond.fieldLink RX12 159 "MoreStoryModel" "book" "[I", Cond.fieldLink RX12 162 "MoreStoryModel" "hasImage" "Z", Cond.fieldLink RX12 166 "MoreStoryModel" "imageThe" "I", Cond.fieldLink RX12 169 "MoreStoryModel" "imageThings" "I"]
def wsL_law_r6 : List Cond := [Cond.fieldLink RX12 172 "MoreStoryModel" "imageParents" "I", Cond.fieldLink RX12 175 "MoreStoryModel" "imageEvening" "I", Cond.fieldLink RX12 178 "MoreStoryModel" "imageClock" "I", Cond.fieldLink RX12 181 "MoreStoryModel" "imageSleepy" "I", Cond.fieldLink RX12 184 "MoreStoryModel" "imageNos" "I", Cond.fieldLink RX12 187 "MoreStoryModel" "imageGiven" "I", Cond.fieldLink RX12 190 "MoreStoryModel" "imageOne" "I", Cond.fieldLink RX12 193 "MoreStoryModel" "imageHeards" "I", Cond.fieldLink RX12 196 "MoreStoryModel" "imageBooks" "I", Cond.fieldLink RX12 199 "MoreStoryModel" "imageMinutes" "[I", Cond.fieldLink RX12 202 "MoreStoryModel" "imageSweet" "[I", Cond.fieldLink RX12 205 "MoreStoryModel" "imageHabit" "[I", Cond.fieldLink RX12 208 "MoreStoryModel" "imageKind" "[I", Cond.fieldLink RX12 211 "MoreStoryModel" "imageV" "[I", Cond.fieldLink RX12 214 "MoreStoryModel" "imageRows" "[I", Cond.fieldLink RX12 217 "MoreStoryModel" "imageBook" "[I", Cond.fieldLink RX12 220 "MoreStoryModel" "imageHeard" "[Z", Cond.fieldLink RX12 223 "MoreStoryModel" "ran" "I", Cond.fieldLink RX12 226 "MoreStoryModel" "bodies" "[I", Cond.fieldLink RX12 229 "MoreStoryModel" "sort" "[I", Cond.fieldLink RX12 232 "MoreStoryModel" "length" "[I", Cond.fieldLink RX12 235 "MoreStoryModel" "item" "[J", Cond.fieldLink RX12 239 "MoreStoryModel" "aside" "[J", Cond.methodLink RL 13 yX11_thing]
def wsL_law_r7 : List Cond := [Cond.instanceMethod yX11_thing, Cond.selects RX11 yX11_thing yX11_thing, Cond.code yX11_thing cX11_thing 4 (some .int), Cond.fieldLink RX11 56 "MoreStory$Home" "things" "I", Cond.fieldLink RX11 60 "MoreStory$Home" "minutes" "[I", Cond.fieldLink RX11 63 "MoreStory$Home" "sweet" "[I", Cond.fieldLink RX11 66 "MoreStory$Home" "habit" "[I", Cond.methodLink RL 17 yX12_thing, Cond.instanceMethod yX12_thing, Cond.selects RX12 yX12_thing yX12_thing, Cond.code yX12_thing cX12_thing 3 (some .int), Cond.methodLink RX12 242 yX12_in, Cond.instanceMethod yX12_in, Cond.selects RX12 yX12_in yX12_in, Cond.code yX12_in cX12_in 4 (some .boolean), Cond.methodLink RL 18 yX11_parent, Cond.instanceMethod yX11_parent, Cond.selects RX11 yX11_parent yX11_parent, Cond.code yX11_parent cX11_parent 5 (some .int), Cond.fieldLink RX11 69 "MoreStory$Home" "parents" "I", Cond.fieldLink RX11 72 "MoreStory$Home" "persons" "[LMoreStory$Parent;", Cond.fieldLink RX11 80 "MoreStory$Home" "rows" "[I", Cond.methodLink RX11 76 yX11_born, Cond.instanceMethod yX11_born]
def wsL_law_r8 : List Cond := [Cond.selects RX11 yX11_born yX11_born, Cond.code yX11_born cX11_born 4 (some (.object "MoreStory$Parent")), Cond.classLink RX11 83 RX6, Cond.instantiable RX6 4, Cond.initialized RX6, Cond.classLink RX11 88 RX7, Cond.instantiable RX7 4, Cond.initialized RX7, Cond.classLink RX11 91 RX8, Cond.instantiable RX8 4, Cond.initialized RX8, Cond.classLink RX11 94 RX3, Cond.instantiable RX3 4, Cond.initialized RX3, Cond.classLink RX11 97 RX0, Cond.instantiable RX0 4, Cond.initialized RX0, Cond.classLink RX11 100 RX9, Cond.instantiable RX9 4, Cond.initialized RX9, Cond.classLink RX11 103 RX4, Cond.instantiable RX4 4, Cond.initialized RX4, Cond.methodLink RX11 85 yX6_init]
def wsL_law_r9 : List Cond := [Cond.instanceMethod yX6_init, Cond.code yX6_init cX6_init 5 none, Cond.methodLink RX6 1 yX4_init, Cond.instanceMethod yX4_init, Cond.code yX4_init cX4_init 5 none, Cond.methodLink RX4 3 objectInit, Cond.fieldLink RX4 9 "MoreStory$Parent" "kind" "I", Cond.fieldLink RX4 15 "MoreStory$Parent" "i" "I", Cond.fieldLink RX4 18 "MoreStory$Parent" "v" "I", Cond.fieldLink RX4 21 "MoreStory$Parent" "log" "[I", Cond.methodLink RX11 90 yX7_init, Cond.instanceMethod yX7_init, Cond.code yX7_init cX7_init 5 none, Cond.methodLink RX7 1 yX4_init, Cond.methodLink RX11 93 yX8_init, Cond.instanceMethod yX8_init, Cond.code yX8_init cX8_init 5 none, Cond.methodLink RX8 1 yX4_init, Cond.methodLink RX11 96 yX3_init, Cond.instanceMethod yX3_init, Cond.code yX3_init cX3_init 5 none, Cond.methodLink RX3 1 yX6_init, Cond.methodLink RX11 99 yX0_init, Cond.instanceMethod yX0_init]
def wsL_law_r10 : List Cond := [Cond.code yX0_init cX0_init 5 none, Cond.methodLink RX0 1 yX7_init, Cond.methodLink RX11 102 yX9_init, Cond.instanceMethod yX9_init, Cond.code yX9_init cX9_init 5 none, Cond.methodLink RX9 3 yX8_init, Cond.methodLink RX11 105 yX4_init, Cond.methodLink RL 21 yX12_parent, Cond.instanceMethod yX12_parent, Cond.selects RX12 yX12_parent yX12_parent, Cond.code yX12_parent cX12_parent 4 (some .int), Cond.methodLink RL 22 yX11_at, Cond.instanceMethod yX11_at, Cond.selects RX11 yX11_at yX11_at, Cond.code yX11_at cX11_at 3 (some .int), Cond.methodLink RX11 106 yX1_has, Cond.instanceMethod yX1_has, Cond.selects RX1 yX1_has yX1_has, Cond.code yX1_has cX1_has 2 (some .boolean), Cond.fieldLink RX1 50 "MoreStory$Home" "things" "I", Cond.methodLink RL 25 yX12_at, Cond.instanceMethod yX12_at, Cond.selects RX12 yX12_at yX12_at, Cond.code yX12_at cX12_at 3 (some .int)]
def wsL_law_r11 : List Cond := [Cond.methodLink RX12 246 yX12_isThing, Cond.instanceMethod yX12_isThing, Cond.selects RX12 yX12_isThing yX12_isThing, Cond.code yX12_isThing cX12_isThing 2 (some .boolean), Cond.methodLink RL 26 yX11_of, Cond.instanceMethod yX11_of, Cond.selects RX11 yX11_of yX11_of, Cond.code yX11_of cX11_of 5 (some .int), Cond.fieldLink RX11 114 "MoreStory$Parent" "kind" "I", Cond.fieldLink RX11 117 "MoreStory$Parent" "v" "I", Cond.methodLink RX11 110 yX1_person, Cond.instanceMethod yX1_person, Cond.selects RX1 yX1_person yX1_person, Cond.code yX1_person cX1_person 2 (some (.object "MoreStory$Parent")), Cond.fieldLink RX1 53 "MoreStory$Home" "parents" "I", Cond.methodLink RX11 120 ⟨"MoreStory$Parent", "grants", "(LMoreStory$Home;I)Z"⟩, Cond.sameMethod "MoreStory$Parent" "MoreStory$Parent" "grants" "(LMoreStory$Home;I)Z", Cond.instanceMethod ⟨"MoreStory$Parent", "grants", "(LMoreStory$Home;I)Z"⟩, Cond.selects RX0 ⟨"MoreStory$Parent", "grants", "(LMoreStory$Home;I)Z"⟩ yX0_grants, Cond.instanceMethod yX0_grants, Cond.code yX0_grants cX0_grants 3 (some .boolean), Cond.fieldLink RX0 17 "MoreStory$Home" "habit" "[I", Cond.fieldLink RX0 21 "MoreStory$Fair" "v" "I", Cond.sameField "MoreStory$Fair" "MoreStory$Parent" "v" "I"]
def wsL_law_r12 : List Cond := [Cond.methodLink RX0 7 yX7_grants, Cond.sameMethod "MoreStory$Strict" "MoreStory$Strict" "grants" "(LMoreStory$Home;I)Z", Cond.superclass RX0 RX7, Cond.instanceMethod yX7_grants, Cond.code yX7_grants cX7_grants 3 (some .boolean), Cond.fieldLink RX7 11 "MoreStory$Home" "given" "I", Cond.fieldLink RX7 17 "MoreStory$Strict" "v" "I", Cond.sameField "MoreStory$Strict" "MoreStory$Parent" "v" "I", Cond.methodLink RX7 7 yX4_grants, Cond.superclass RX7 RX4, Cond.instanceMethod yX4_grants, Cond.code yX4_grants cX4_grants 3 (some .boolean), Cond.fieldLink RX4 31 "MoreStory$Home" "clock" "I", Cond.fieldLink RX4 34 "MoreStory$Home" "minutes" "[I", Cond.fieldLink RX4 37 "MoreStory$Home" "late" "I", Cond.methodLink RX4 25 yX1_has, Cond.methodLink RX0 11 yX1_has, Cond.selects RX3 ⟨"MoreStory$Parent", "grants", "(LMoreStory$Home;I)Z"⟩ yX3_grants, Cond.instanceMethod yX3_grants, Cond.code yX3_grants cX3_grants 3 (some .boolean), Cond.fieldLink RX3 17 "MoreStory$Home" "sweet" "[I", Cond.methodLink RX3 7 yX6_grants, Cond.sameMethod "MoreStory$Soft" "MoreStory$Soft" "grants" "(LMoreStory$Home;I)Z", Cond.superclass RX3 RX6]
def wsL_law_r13 : List Cond := [Cond.instanceMethod yX6_grants, Cond.code yX6_grants cX6_grants 3 (some .boolean), Cond.fieldLink RX6 11 "MoreStory$Home" "nos" "I", Cond.methodLink RX6 7 yX4_grants, Cond.superclass RX6 RX4, Cond.methodLink RX3 11 yX1_has, Cond.methodLink RX11 120 yX4_grants, Cond.selects RX4 yX4_grants yX4_grants, Cond.selects RX6 ⟨"MoreStory$Parent", "grants", "(LMoreStory$Home;I)Z"⟩ yX6_grants, Cond.selects RX7 ⟨"MoreStory$Parent", "grants", "(LMoreStory$Home;I)Z"⟩ yX7_grants, Cond.selects RX8 ⟨"MoreStory$Parent", "grants", "(LMoreStory$Home;I)Z"⟩ yX8_grants, Cond.instanceMethod yX8_grants, Cond.code yX8_grants cX8_grants 3 (some .boolean), Cond.fieldLink RX8 13 "MoreStory$Home" "minutes" "[I", Cond.fieldLink RX8 17 "MoreStory$Tired" "v" "I", Cond.sameField "MoreStory$Tired" "MoreStory$Parent" "v" "I", Cond.methodLink RX8 7 yX1_has, Cond.selects RX9 ⟨"MoreStory$Parent", "grants", "(LMoreStory$Home;I)Z"⟩ yX9_grants, Cond.instanceMethod yX9_grants, Cond.code yX9_grants cX9_grants 4 (some .boolean), Cond.fieldLink RX9 9 "MoreStory$Told" "i" "I", Cond.sameField "MoreStory$Told" "MoreStory$Parent" "i" "I", Cond.fieldLink RX9 15 "MoreStory$Home" "evening" "I", Cond.fieldLink RX9 24 "MoreStory$Home" "rows" "[I"]
def wsL_law_r14 : List Cond := [Cond.methodLink RX9 20 yX8_grants, Cond.sameMethod "MoreStory$Tired" "MoreStory$Tired" "grants" "(LMoreStory$Home;I)Z", Cond.superclass RX9 RX8, Cond.methodLink RX11 124 yX1_moved, Cond.instanceMethod yX1_moved, Cond.selects RX1 yX1_moved yX1_moved, Cond.code yX1_moved cX1_moved 5 (some .int), Cond.fieldLink RX1 80 "MoreStory$Home" "house" "LMoreStory$House;", Cond.methodLink RX1 90 yX1_has, Cond.methodLink RX1 94 yX2_look, Cond.instanceMethod yX2_look, Cond.selects RX2 yX2_look yX2_look, Cond.initialized RX2, Cond.code yX2_look cX2_look 4 none, Cond.fieldLink RX2 17 "MoreStory$House" "seen" "[I", Cond.fieldLink RX2 63 "MoreStory$Parent" "i" "I", Cond.fieldLink RX2 68 "MoreStory$Parent" "kind" "I", Cond.fieldLink RX2 71 "MoreStory$Home" "clock" "I", Cond.fieldLink RX2 76 "MoreStory$Home" "nos" "I", Cond.fieldLink RX2 83 "MoreStory$Home" "habit" "[I", Cond.methodLink RX2 79 yX1_has, Cond.methodLink RX1 98 yX2_sum, Cond.instanceMethod yX2_sum, Cond.selects RX2 yX2_sum yX2_sum]
def wsL_law_r15 : List Cond := [Cond.code yX2_sum cX2_sum 7 (some .int), Cond.fieldLink RX2 41 "MoreStory$House" "words" "[I", Cond.fieldLink RX2 47 "MoreStory$House" "ends" "[I", Cond.fieldLink RX2 44 "MoreStory$House" "numbers" "[I", Cond.methodLink RX2 86 yX2_holds, Cond.instanceMethod yX2_holds, Cond.selects RX2 yX2_holds yX2_holds, Cond.code yX2_holds cX2_holds 12 (some .boolean), Cond.fieldLink RX2 50 "MoreStory$House" "code" "[I", Cond.methodLink RL 29 yX12_of, Cond.instanceMethod yX12_of, Cond.selects RX12 yX12_of yX12_of, Cond.code yX12_of cX12_of 4 (some .int), Cond.methodLink RX12 250 yX12_isParent, Cond.instanceMethod yX12_isParent, Cond.selects RX12 yX12_isParent yX12_isParent, Cond.code yX12_isParent cX12_isParent 2 (some .boolean), Cond.methodLink RX12 326 yX12_gives, Cond.instanceMethod yX12_gives, Cond.selects RX12 yX12_gives yX12_gives, Cond.code yX12_gives cX12_gives 3 (some .boolean), Cond.methodLink RX12 323 yX12_isEarly, Cond.instanceMethod yX12_isEarly, Cond.selects RX12 yX12_isEarly yX12_isEarly]
def wsL_law_r16 : List Cond := [Cond.code yX12_isEarly cX12_isEarly 2 (some .boolean), Cond.methodLink RX12 320 yX12_late, Cond.instanceMethod yX12_late, Cond.selects RX12 yX12_late yX12_late, Cond.code yX12_late cX12_late 1 (some .int), Cond.methodLink RX12 313 yX12_lastOf, Cond.instanceMethod yX12_lastOf, Cond.selects RX12 yX12_lastOf yX12_lastOf, Cond.code yX12_lastOf cX12_lastOf 5 (some .int), Cond.methodLink RX12 300 yX12_begin, Cond.instanceMethod yX12_begin, Cond.selects RX12 yX12_begin yX12_begin, Cond.code yX12_begin cX12_begin 1 (some .int), Cond.methodLink RX12 303 yX12_behind, Cond.instanceMethod yX12_behind, Cond.selects RX12 yX12_behind yX12_behind, Cond.code yX12_behind cX12_behind 1 (some .int), Cond.methodLink RX12 329 yX12_sumOf, Cond.instanceMethod yX12_sumOf, Cond.selects RX12 yX12_sumOf yX12_sumOf, Cond.code yX12_sumOf cX12_sumOf 8 (some .int), Cond.methodLink RX12 310 yX12_holds, Cond.instanceMethod yX12_holds, Cond.selects RX12 yX12_holds yX12_holds]
def wsL_law_r17 : List Cond := [Cond.code yX12_holds cX12_holds 9 (some .boolean), Cond.methodLink RX12 306 yX12_factOf, Cond.instanceMethod yX12_factOf, Cond.selects RX12 yX12_factOf yX12_factOf, Cond.code yX12_factOf cX12_factOf 4 (some .int), Cond.methodLink RL 30 yX11_habit, Cond.instanceMethod yX11_habit, Cond.selects RX11 yX11_habit yX11_habit, Cond.code yX11_habit cX11_habit 4 (some .int), Cond.methodLink RL 33 yX12_habit, Cond.instanceMethod yX12_habit, Cond.selects RX12 yX12_habit yX12_habit, Cond.code yX12_habit cX12_habit 4 (some .int), Cond.methodLink RL 34 yX11_row, Cond.instanceMethod yX11_row, Cond.selects RX11 yX11_row yX11_row, Cond.code yX11_row cX11_row 6 (some .int), Cond.methodLink RL 38 yX12_row, Cond.instanceMethod yX12_row, Cond.selects RX12 yX12_row yX12_row, Cond.code yX12_row cX12_row 5 (some .int), Cond.methodLink RL 39 yX11_feed, Cond.instanceMethod yX11_feed, Cond.selects RX11 yX11_feed yX11_feed]
def wsL_law_r18 : List Cond := [Cond.code yX11_feed cX11_feed 2 (some .int), Cond.fieldLink RX11 128 "MoreStory$Reader" "length" "I", Cond.fieldLink RX11 131 "MoreStory$Reader" "text" "[I", Cond.methodLink RL 43 yX12_feed, Cond.instanceMethod yX12_feed, Cond.selects RX12 yX12_feed yX12_feed, Cond.code yX12_feed cX12_feed 2 (some .int), Cond.methodLink RL 44 yX11_house, Cond.instanceMethod yX11_house, Cond.selects RX11 yX11_house yX11_house, Cond.code yX11_house cX11_house 2 (some .int), Cond.fieldLink RX11 134 "MoreStory" "housed" "I", Cond.fieldLink RX11 141 "MoreStory$Reader" "at" "I", Cond.classLink RX11 144 RX2, Cond.instantiable RX2 5, Cond.methodLink RX11 137 yX5_reads, Cond.instanceMethod yX5_reads, Cond.selects RX5 yX5_reads yX5_reads, Cond.code yX5_reads cX5_reads 3 (some .boolean), Cond.fieldLink RX5 27 "MoreStory$Reader" "at" "I", Cond.fieldLink RX5 31 "MoreStory$Reader" "codes" "I", Cond.fieldLink RX5 34 "MoreStory$Reader" "clauses" "I", Cond.fieldLink RX5 45 "MoreStory$Reader" "length" "I", Cond.methodLink RX5 37 yX5_clause]
def wsL_law_r19 : List Cond := [Cond.instanceMethod yX5_clause, Cond.selects RX5 yX5_clause yX5_clause, Cond.code yX5_clause cX5_clause 3 (some .boolean), Cond.methodLink RX5 48 yX5_word, Cond.instanceMethod yX5_word, Cond.selects RX5 yX5_word yX5_word, Cond.code yX5_word cX5_word 3 (some .int), Cond.methodLink RX5 60 yJ0_charAt_5068e, Cond.instanceMethod yJ0_charAt_5068e, Cond.selects RJ0 yJ0_charAt_5068e yJ0_charAt_5068e, Cond.initialized RJ0, Cond.code yJ0_charAt_5068e cJ0_charAt_5068e 2 (some .char), Cond.fieldLink RJ0 9 "java/lang/String" "value" "[B", Cond.methodLink RJ0 492 yJ0_isLatin1_aae02, Cond.instanceMethod yJ0_isLatin1_aae02, Cond.selects RJ0 yJ0_isLatin1_aae02 yJ0_isLatin1_aae02, Cond.code yJ0_isLatin1_aae02 cJ0_isLatin1_aae02 1 (some .boolean), Cond.fieldLink RJ0 38 "java/lang/String" "COMPACT_STRINGS" "Z", Cond.fieldLink RJ0 15 "java/lang/String" "coder" "B", Cond.methodLink RJ0 495 yJ1_charAt_3b067, Cond.static yJ1_charAt_3b067, Cond.initialized RJ1, Cond.code yJ1_charAt_3b067 cJ1_charAt_3b067 2 (some .char), Cond.methodLink RJ1 9 yJ0_checkIndex_df160]
def wsL_law_r20 : List Cond := [Cond.static yJ0_checkIndex_df160, Cond.code yJ0_checkIndex_df160 cJ0_checkIndex_df160 2 none, Cond.fieldLink RJ0 1053 "jdk/internal/util/Preconditions" "SIOOBE_FORMATTER" "Ljava/util/function/BiFunction;", Cond.methodLink RJ0 1059 yJ3_checkIndex_8e157, Cond.static yJ3_checkIndex_8e157, Cond.initialized RJ3, Cond.code yJ3_checkIndex_8e157 cJ3_checkIndex_8e157 3 (some .int), Cond.methodLink RJ0 498 yJ2_charAt_3b067, Cond.static yJ2_charAt_3b067, Cond.initialized RJ2, Cond.code yJ2_charAt_3b067 cJ2_charAt_3b067 2 (some .char), Cond.methodLink RJ2 67 yJ2_checkIndex_2214a, Cond.static yJ2_checkIndex_2214a, Cond.code yJ2_checkIndex_2214a cJ2_checkIndex_2214a 2 none, Cond.methodLink RJ2 48 yJ2_length_9d52b, Cond.static yJ2_length_9d52b, Cond.code yJ2_length_9d52b cJ2_length_9d52b 1 (some .int), Cond.methodLink RJ2 414 yJ0_checkIndex_df160, Cond.methodLink RJ2 71 yJ2_getChar_3b067, Cond.static yJ2_getChar_3b067, Cond.code yJ2_getChar_3b067 cJ2_getChar_3b067 2 (some .char), Cond.fieldLink RJ2 44 "java/lang/StringUTF16" "$assertionsDisabled" "Z", Cond.fieldLink RJ2 59 "java/lang/StringUTF16" "HI_BYTE_SHIFT" "I", Cond.fieldLink RJ2 63 "java/lang/StringUTF16" "LO_BYTE_SHIFT" "I"]
def wsL_law_r21 : List Cond := [Cond.methodLink RX5 41 yX5_takes, Cond.instanceMethod yX5_takes, Cond.selects RX5 yX5_takes yX5_takes, Cond.code yX5_takes cX5_takes 2 (some .boolean), Cond.methodLink RX5 52 yX5_number, Cond.instanceMethod yX5_number, Cond.selects RX5 yX5_number yX5_number, Cond.code yX5_number cX5_number 3 (some .int), Cond.methodLink RX5 68 yX5_oneOf, Cond.instanceMethod yX5_oneOf, Cond.selects RX5 yX5_oneOf yX5_oneOf, Cond.code yX5_oneOf cX5_oneOf 3 (some .int), Cond.methodLink RX5 85 yJ0_indexOf_0f7a4, Cond.instanceMethod yJ0_indexOf_0f7a4, Cond.selects RJ0 yJ0_indexOf_0f7a4 yJ0_indexOf_0f7a4, Cond.code yJ0_indexOf_0f7a4 cJ0_indexOf_0f7a4 2 (some .int), Cond.methodLink RJ0 633 yJ0_indexOf_7cf53, Cond.instanceMethod yJ0_indexOf_7cf53, Cond.selects RJ0 yJ0_indexOf_7cf53 yJ0_indexOf_7cf53, Cond.code yJ0_indexOf_7cf53 cJ0_indexOf_7cf53 3 (some .int), Cond.methodLink RJ0 505 yJ0_length_8abf5, Cond.instanceMethod yJ0_length_8abf5, Cond.selects RJ0 yJ0_length_8abf5 yJ0_length_8abf5, Cond.code yJ0_length_8abf5 cJ0_length_8abf5 1 (some .int)]
def wsL_law_r22 : List Cond := [Cond.methodLink RJ0 335 yJ0_coder_7d493, Cond.instanceMethod yJ0_coder_7d493, Cond.selects RJ0 yJ0_coder_7d493 yJ0_coder_7d493, Cond.code yJ0_coder_7d493 cJ0_coder_7d493 1 (some .byte), Cond.methodLink RJ0 637 yJ1_indexOf_4cfef, Cond.static yJ1_indexOf_4cfef, Cond.code yJ1_indexOf_4cfef cJ1_indexOf_4cfef 4 (some .int), Cond.methodLink RJ1 92 Lib.Math.max.name, Cond.static Lib.Math.max.name, Cond.initialized "java/lang/Math", Cond.code Lib.Math.max.name Lib.Math.max.code 2 (some .int), Cond.methodLink RJ1 38 Lib.Math.min.name, Cond.static Lib.Math.min.name, Cond.code Lib.Math.min.name Lib.Math.min.code 2 (some .int), Cond.methodLink RJ1 88 yJ1_canEncode_9a6ad, Cond.static yJ1_canEncode_9a6ad, Cond.code yJ1_canEncode_9a6ad cJ1_canEncode_9a6ad 1 (some .boolean), Cond.methodLink RJ1 95 yJ1_indexOfChar_4cfef, Cond.static yJ1_indexOfChar_4cfef, Cond.code yJ1_indexOfChar_4cfef cJ1_indexOfChar_4cfef 6 (some .int), Cond.methodLink RJ0 640 yJ2_indexOf_4cfef, Cond.static yJ2_indexOf_4cfef, Cond.code yJ2_indexOf_4cfef cJ2_indexOf_4cfef 4 (some .int), Cond.methodLink RJ2 224 Lib.Math.max.name]
def wsL_law_r23 : List Cond := [Cond.methodLink RJ2 183 Lib.Math.min.name, Cond.constant RJ2 227 (65536), Cond.methodLink RJ2 228 yJ2_indexOfChar_4cfef, Cond.static yJ2_indexOfChar_4cfef, Cond.code yJ2_indexOfChar_4cfef cJ2_indexOfChar_4cfef 4 (some .int), Cond.methodLink RJ2 96 yJ2_checkBoundsBeginEnd_d044e, Cond.static yJ2_checkBoundsBeginEnd_d044e, Cond.code yJ2_checkBoundsBeginEnd_d044e cJ2_checkBoundsBeginEnd_d044e 3 none, Cond.methodLink RJ2 241 yJ0_checkBoundsBeginEnd_23922, Cond.static yJ0_checkBoundsBeginEnd_23922, Cond.code yJ0_checkBoundsBeginEnd_23922 cJ0_checkBoundsBeginEnd_23922 3 none, Cond.methodLink RJ0 1062 yJ3_checkFromToIndex_8c36e, Cond.static yJ3_checkFromToIndex_8c36e, Cond.code yJ3_checkFromToIndex_8c36e cJ3_checkFromToIndex_8c36e 4 (some .int), Cond.methodLink RJ2 244 yJ2_indexOfCharUnsafe_4cfef, Cond.static yJ2_indexOfCharUnsafe_4cfef, Cond.code yJ2_indexOfCharUnsafe_4cfef cJ2_indexOfCharUnsafe_4cfef 5 (some .int), Cond.methodLink RJ2 232 yJ2_indexOfSupplementary_4cfef, Cond.static yJ2_indexOfSupplementary_4cfef, Cond.code yJ2_indexOfSupplementary_4cfef cJ2_indexOfSupplementary_4cfef 7 (some .int), Cond.methodLink RJ2 164 yJ11_isValidCodePoint_9a6ad, Cond.static yJ11_isValidCodePoint_9a6ad, Cond.initialized RJ11, Cond.code yJ11_isValidCodePoint_9a6ad cJ11_isValidCodePoint_9a6ad 2 (some .boolean)]
def wsL_law_r24 : List Cond := [Cond.methodLink RJ2 157 yJ11_highSurrogate_5068e, Cond.static yJ11_highSurrogate_5068e, Cond.code yJ11_highSurrogate_5068e cJ11_highSurrogate_5068e 1 (some .char), Cond.constant RJ11 110 (55232), Cond.methodLink RJ2 161 yJ11_lowSurrogate_5068e, Cond.static yJ11_lowSurrogate_5068e, Cond.code yJ11_lowSurrogate_5068e cJ11_lowSurrogate_5068e 1 (some .char), Cond.constant RJ11 76 (56320), Cond.methodLink RX5 55 yX5_either, Cond.instanceMethod yX5_either, Cond.selects RX5 yX5_either yX5_either, Cond.code yX5_either cX5_either 4 (some .boolean), Cond.methodLink RX5 72 yX5_every, Cond.instanceMethod yX5_every, Cond.selects RX5 yX5_every yX5_every, Cond.methodLink RX5 75 yX5_puts, Cond.instanceMethod yX5_puts, Cond.selects RX5 yX5_puts yX5_puts, Cond.code yX5_puts cX5_puts 2 (some .boolean), Cond.code yX5_every cX5_every 4 (some .boolean), Cond.methodLink RX5 78 yX5_factor, Cond.instanceMethod yX5_factor, Cond.selects RX5 yX5_factor yX5_factor, Cond.code yX5_factor cX5_factor 5 (some .boolean)]
def wsL_law_r25 : List Cond := [Cond.methodLink RX11 146 yX2_init, Cond.instanceMethod yX2_init, Cond.code yX2_init cX2_init 4 none, Cond.methodLink RX2 3 objectInit, Cond.fieldLink RX2 23 "MoreStory$Reader" "clauses" "I", Cond.methodLink RX2 29 Lib.Math.min.name, Cond.methodLink RX2 35 Lib.Math.max.name, Cond.fieldLink RX2 38 "MoreStory$Reader" "codes" "I", Cond.fieldLink RX2 53 "MoreStory$Reader" "words" "[I", Cond.methodLink RX2 54 arraycopyName, Cond.native arraycopyName, Cond.static arraycopyName, Cond.initialized "java/lang/System", Cond.fieldLink RX2 60 "MoreStory$Reader" "numbers" "[I", Cond.fieldLink RX2 61 "MoreStory$Reader" "ends" "[I", Cond.fieldLink RX2 62 "MoreStory$Reader" "code" "[I", Cond.methodLink RX2 11 yJ0_length_8abf5, Cond.methodLink RX11 149 yX1_hold, Cond.instanceMethod yX1_hold, Cond.selects RX1 yX1_hold yX1_hold, Cond.code yX1_hold cX1_hold 2 none, Cond.methodLink RX1 84 yX2_last, Cond.instanceMethod yX2_last, Cond.selects RX2 yX2_last yX2_last]
def wsL_law_r26 : List Cond := [Cond.code yX2_last cX2_last 5 (some .int), Cond.methodLink RL 48 yX12_house, Cond.instanceMethod yX12_house, Cond.selects RX12 yX12_house yX12_house, Cond.code yX12_house cX12_house 2 (some .int), Cond.methodLink RX12 297 yX12_goesText, Cond.instanceMethod yX12_goesText, Cond.selects RX12 yX12_goesText yX12_goesText, Cond.code yX12_goesText cX12_goesText 3 (some .boolean), Cond.methodLink RX12 294 yX12_takesClause, Cond.instanceMethod yX12_takesClause, Cond.selects RX12 yX12_takesClause yX12_takesClause, Cond.code yX12_takesClause cX12_takesClause 2 (some .boolean), Cond.methodLink RX12 288 yX12_takesHead, Cond.instanceMethod yX12_takesHead, Cond.selects RX12 yX12_takesHead yX12_takesHead, Cond.code yX12_takesHead cX12_takesHead 2 (some .boolean), Cond.methodLink RX12 253 yX12_next, Cond.instanceMethod yX12_next, Cond.selects RX12 yX12_next yX12_next, Cond.code yX12_next cX12_next 1 (some .int), Cond.methodLink RX12 284 yX12_takesWord, Cond.instanceMethod yX12_takesWord, Cond.selects RX12 yX12_takesWord yX12_takesWord]
def wsL_law_r27 : List Cond := [Cond.code yX12_takesWord cX12_takesWord 4 (some .boolean), Cond.methodLink RX12 257 yX12_takes, Cond.instanceMethod yX12_takes, Cond.selects RX12 yX12_takes yX12_takes, Cond.code yX12_takes cX12_takes 2 (some .boolean), Cond.methodLink RX12 272 yX12_takesNumber, Cond.instanceMethod yX12_takesNumber, Cond.selects RX12 yX12_takesNumber yX12_takesNumber, Cond.code yX12_takesNumber cX12_takesNumber 2 (some .boolean), Cond.methodLink RX12 260 yX12_isDigit, Cond.instanceMethod yX12_isDigit, Cond.selects RX12 yX12_isDigit yX12_isDigit, Cond.code yX12_isDigit cX12_isDigit 1 (some .boolean), Cond.methodLink RX12 291 yX12_takesE, Cond.instanceMethod yX12_takesE, Cond.selects RX12 yX12_takesE yX12_takesE, Cond.code yX12_takesE cX12_takesE 4 (some .boolean), Cond.methodLink RX12 278 yX12_takesTest, Cond.instanceMethod yX12_takesTest, Cond.selects RX12 yX12_takesTest yX12_takesTest, Cond.code yX12_takesTest cX12_takesTest 3 (some .boolean), Cond.methodLink RX12 268 yX12_place, Cond.instanceMethod yX12_place, Cond.selects RX12 yX12_place yX12_place]
def wsL_law_r28 : List Cond := [Cond.code yX12_place cX12_place 2 (some .int), Cond.methodLink RX12 264 yX12_emits, Cond.instanceMethod yX12_emits, Cond.selects RX12 yX12_emits yX12_emits, Cond.code yX12_emits cX12_emits 2 none, Cond.methodLink RX12 275 yX12_whole, Cond.instanceMethod yX12_whole, Cond.selects RX12 yX12_whole yX12_whole, Cond.code yX12_whole cX12_whole 1 none, Cond.methodLink RX12 281 yX12_settle, Cond.instanceMethod yX12_settle, Cond.selects RX12 yX12_settle yX12_settle, Cond.code yX12_settle cX12_settle 2 none, Cond.methodLink RL 49 yX11_told, Cond.instanceMethod yX11_told, Cond.selects RX11 yX11_told yX11_told, Cond.code yX11_told cX11_told 2 (some .int), Cond.fieldLink RX11 153 "MoreStory$Home" "evening" "I", Cond.fieldLink RX11 156 "MoreStory$Home" "clock" "I", Cond.fieldLink RX11 159 "MoreStory$Home" "sleepy" "I", Cond.fieldLink RX11 162 "MoreStory$Home" "nos" "I", Cond.fieldLink RX11 165 "MoreStory$Home" "given" "I", Cond.fieldLink RX11 168 "MoreStory$Home" "one" "I", Cond.fieldLink RX11 171 "MoreStory$Home" "late" "I"]
def wsL_law_r29 : List Cond := [Cond.fieldLink RX11 174 "MoreStory$Home" "deep" "I", Cond.methodLink RX11 177 yX1_how, Cond.instanceMethod yX1_how, Cond.selects RX1 yX1_how yX1_how, Cond.code yX1_how cX1_how 1 (some .int), Cond.fieldLink RX1 65 "MoreStory$Home" "sleepy" "I", Cond.fieldLink RX1 62 "MoreStory$Home" "clock" "I", Cond.methodLink RL 52 yX12_told, Cond.instanceMethod yX12_told, Cond.selects RX12 yX12_told yX12_told, Cond.code yX12_told cX12_told 2 (some .int), Cond.methodLink RX12 317 yX12_deep, Cond.instanceMethod yX12_deep, Cond.selects RX12 yX12_deep yX12_deep, Cond.code yX12_deep cX12_deep 1 (some .int), Cond.methodLink RX12 333 yX12_how, Cond.instanceMethod yX12_how, Cond.selects RX12 yX12_how yX12_how, Cond.code yX12_how cX12_how 1 (some .int), Cond.methodLink RL 53 yX11_ask, Cond.instanceMethod yX11_ask, Cond.selects RX11 yX11_ask yX11_ask, Cond.code yX11_ask cX11_ask 4 (some .int), Cond.methodLink RX11 181 yX1_pass]
def wsL_law_r30 : List Cond := [Cond.instanceMethod yX1_pass, Cond.selects RX1 yX1_pass yX1_pass, Cond.code yX1_pass cX1_pass 5 none, Cond.fieldLink RX1 68 "MoreStory$Home" "nos" "I", Cond.fieldLink RX1 71 "MoreStory$Home" "given" "I", Cond.methodLink RX1 105 Lib.Math.min.name, Cond.methodLink RX1 110 Lib.Math.max.name, Cond.methodLink RX1 101 yX1_moved, Cond.methodLink RL 56 yX12_ask, Cond.instanceMethod yX12_ask, Cond.selects RX12 yX12_ask yX12_ask, Cond.code yX12_ask cX12_ask 2 (some .int), Cond.methodLink RX12 342 yX12_isOver, Cond.instanceMethod yX12_isOver, Cond.selects RX12 yX12_isOver yX12_isOver, Cond.code yX12_isOver cX12_isOver 1 (some .boolean), Cond.methodLink RX12 345 yX12_goAsk, Cond.instanceMethod yX12_goAsk, Cond.selects RX12 yX12_goAsk yX12_goAsk, Cond.code yX12_goAsk cX12_goAsk 3 (some .boolean), Cond.methodLink RX12 336 yX12_nextOf, Cond.instanceMethod yX12_nextOf, Cond.selects RX12 yX12_nextOf yX12_nextOf, Cond.code yX12_nextOf cX12_nextOf 2 (some .int)]
def wsL_law_r31 : List Cond := [Cond.methodLink RX12 339 yX12_asks, Cond.instanceMethod yX12_asks, Cond.selects RX12 yX12_asks yX12_asks, Cond.code yX12_asks cX12_asks 4 (some .boolean), Cond.methodLink RL 57 yX11_night, Cond.instanceMethod yX11_night, Cond.selects RX11 yX11_night yX11_night, Cond.code yX11_night cX11_night 2 (some .int), Cond.methodLink RX11 185 yX1_sleepOver, Cond.instanceMethod yX1_sleepOver, Cond.selects RX1 yX1_sleepOver yX1_sleepOver, Cond.code yX1_sleepOver cX1_sleepOver 1 none, Cond.fieldLink RX1 74 "MoreStory$Home" "one" "I", Cond.fieldLink RX1 77 "MoreStory$Home" "evening" "I", Cond.methodLink RL 60 yX12_night, Cond.instanceMethod yX12_night, Cond.selects RX12 yX12_night yX12_night, Cond.code yX12_night cX12_night 2 (some .int), Cond.methodLink RX12 348 yX12_goNight, Cond.instanceMethod yX12_goNight, Cond.selects RX12 yX12_goNight yX12_goNight, Cond.code yX12_goNight cX12_goNight 1 none, Cond.methodLink RL 61 yX11_will, Cond.instanceMethod yX11_will]
def wsL_law_r32 : List Cond := [Cond.selects RX11 yX11_will yX11_will, Cond.code yX11_will cX11_will 5 (some .int), Cond.methodLink RL 64 yX12_will, Cond.instanceMethod yX12_will, Cond.selects RX12 yX12_will yX12_will, Cond.code yX12_will cX12_will 4 (some .int), Cond.methodLink RL 65 yX11_on, Cond.instanceMethod yX11_on, Cond.selects RX11 yX11_on yX11_on, Cond.code yX11_on cX11_on 5 (some .int), Cond.fieldLink RX11 196 "MoreStory$Trial" "home" "LMoreStory$Home;", Cond.fieldLink RX11 199 "MoreStory$Trial" "asks" "I", Cond.methodLink RX11 188 yX10_start, Cond.instanceMethod yX10_start, Cond.selects RX10 yX10_start yX10_start, Cond.code yX10_start cX10_start 3 none, Cond.fieldLink RX10 26 "MoreStory$Home" "things" "I", Cond.methodLink RX10 30 Lib.Math.min.name, Cond.fieldLink RX10 36 "MoreStory$Trial" "turns" "I", Cond.fieldLink RX10 39 "MoreStory$Home" "one" "I", Cond.fieldLink RX10 42 "MoreStory$Trial" "place" "I", Cond.fieldLink RX10 45 "MoreStory$Trial" "coupons" "I", Cond.fieldLink RX10 48 "MoreStory$Trial" "asks" "I", Cond.fieldLink RX10 51 "MoreStory$Trial" "minutes" "I"]
def wsL_law_r33 : List Cond := [Cond.methodLink RX10 22 yX1_copy, Cond.instanceMethod yX1_copy, Cond.selects RX1 yX1_copy yX1_copy, Cond.code yX1_copy cX1_copy 3 none, Cond.methodLink RX1 44 arraycopyName, Cond.fieldLink RX1 56 "MoreStory$Home" "heard" "I", Cond.fieldLink RX1 59 "MoreStory$Home" "booked" "I", Cond.methodLink RX11 192 yX10_run, Cond.instanceMethod yX10_run, Cond.selects RX10 yX10_run yX10_run, Cond.code yX10_run cX10_run 5 none, Cond.methodLink RX10 70 yX10_goesOn, Cond.instanceMethod yX10_goesOn, Cond.selects RX10 yX10_goesOn yX10_goesOn, Cond.code yX10_goesOn cX10_goesOn 1 (some .boolean), Cond.methodLink RX10 66 yX1_how, Cond.methodLink RX10 90 yX10_step, Cond.instanceMethod yX10_step, Cond.selects RX10 yX10_step yX10_step, Cond.code yX10_step cX10_step 4 (some .boolean), Cond.fieldLink RX10 88 "MoreStory$Home" "minutes" "[I", Cond.methodLink RX10 74 ⟨"MoreStory$Parent", "grants", "(LMoreStory$Home;I)Z"⟩, Cond.methodLink RX10 74 yX4_grants, Cond.methodLink RX10 80 yX1_pass]
def wsL_law_r34 : List Cond := [Cond.methodLink RX10 84 yX1_has, Cond.methodLink RL 68 yX12_on, Cond.instanceMethod yX12_on, Cond.selects RX12 yX12_on yX12_on, Cond.code yX12_on cX12_on 6 (some .int), Cond.methodLink RX12 351 yX12_save, Cond.instanceMethod yX12_save, Cond.selects RX12 yX12_save yX12_save, Cond.code yX12_save cX12_save 2 none, Cond.methodLink RX12 354 yX12_goAsks, Cond.instanceMethod yX12_goAsks, Cond.selects RX12 yX12_goAsks yX12_goAsks, Cond.code yX12_goAsks cX12_goAsks 5 (some .int), Cond.methodLink RX12 357 yX12_putBack, Cond.instanceMethod yX12_putBack, Cond.selects RX12 yX12_putBack yX12_putBack, Cond.code yX12_putBack cX12_putBack 2 none, Cond.methodLink RL 69 yX11_with, Cond.instanceMethod yX11_with, Cond.selects RX11 yX11_with yX11_with, Cond.code yX11_with cX11_with 7 (some .int), Cond.methodLink RX11 202 yX10_sleepsAt, Cond.instanceMethod yX10_sleepsAt, Cond.selects RX10 yX10_sleepsAt yX10_sleepsAt]
def wsL_law_r35 : List Cond := [Cond.code yX10_sleepsAt cX10_sleepsAt 3 (some .int), Cond.fieldLink RX10 54 "MoreStory$Home" "clock" "I", Cond.methodLink RX10 94 yX10_run, Cond.methodLink RX11 206 yX11_earlier, Cond.static yX11_earlier, Cond.code yX11_earlier cX11_earlier 2 (some .boolean), Cond.methodLink RL 72 yX12_with, Cond.instanceMethod yX12_with, Cond.selects RX12 yX12_with yX12_with, Cond.code yX12_with cX12_with 6 (some .int), Cond.methodLink RX12 360 yX12_sleepsBy, Cond.instanceMethod yX12_sleepsBy, Cond.selects RX12 yX12_sleepsBy yX12_sleepsBy, Cond.code yX12_sleepsBy cX12_sleepsBy 4 (some .int), Cond.methodLink RL 73 yX11_both, Cond.instanceMethod yX11_both, Cond.selects RX11 yX11_both yX11_both, Cond.code yX11_both cX11_both 5 (some .int), Cond.methodLink RL 76 yX12_both, Cond.instanceMethod yX12_both, Cond.selects RX12 yX12_both yX12_both, Cond.code yX12_both cX12_both 5 (some .int), Cond.methodLink RL 77 yX11_limit, Cond.instanceMethod yX11_limit]
def wsL_law_r36 : List Cond := [Cond.selects RX11 yX11_limit yX11_limit, Cond.code yX11_limit cX11_limit 8 (some .int), Cond.methodLink RL 80 yX12_limit, Cond.instanceMethod yX12_limit, Cond.selects RX12 yX12_limit yX12_limit, Cond.code yX12_limit cX12_limit 7 (some .int), Cond.methodLink RL 81 yX11_without, Cond.instanceMethod yX11_without, Cond.selects RX11 yX11_without yX11_without, Cond.code yX11_without cX11_without 7 (some .int), Cond.methodLink RX11 210 yX10_skip, Cond.instanceMethod yX10_skip, Cond.selects RX10 yX10_skip yX10_skip, Cond.code yX10_skip cX10_skip 3 none, Cond.methodLink RL 84 yX12_without, Cond.instanceMethod yX12_without, Cond.selects RX12 yX12_without yX12_without, Cond.code yX12_without cX12_without 6 (some .int), Cond.methodLink RL 85 yX11_order, Cond.instanceMethod yX11_order, Cond.selects RX11 yX11_order yX11_order, Cond.code yX11_order cX11_order 5 (some .int), Cond.methodLink RX11 214 yX11_bestOrder, Cond.instanceMethod yX11_bestOrder]
def wsL_law_r37 : List Cond := [Cond.selects RX11 yX11_bestOrder yX11_bestOrder, Cond.code yX11_bestOrder cX11_bestOrder 6 (some .int), Cond.fieldLink RX11 222 "MoreStory$Trial" "minutes" "I", Cond.methodLink RX11 224 arraycopyName, Cond.methodLink RX11 218 yX10_afresh, Cond.instanceMethod yX10_afresh, Cond.selects RX10 yX10_afresh yX10_afresh, Cond.code yX10_afresh cX10_afresh 3 none, Cond.fieldLink RX10 57 "MoreStory$Home" "sleepy" "I", Cond.fieldLink RX10 60 "MoreStory$Home" "nos" "I", Cond.fieldLink RX10 63 "MoreStory$Home" "given" "I", Cond.methodLink RX11 230 yX11_nextOrder, Cond.static yX11_nextOrder, Cond.code yX11_nextOrder cX11_nextOrder 6 (some .boolean), Cond.methodLink RX11 234 yX11_swap, Cond.static yX11_swap, Cond.code yX11_swap cX11_swap 4 none, Cond.methodLink RL 88 yX12_order, Cond.instanceMethod yX12_order, Cond.selects RX12 yX12_order yX12_order, Cond.code yX12_order cX12_order 7 (some .int), Cond.methodLink RX12 366 yX12_layOrder, Cond.instanceMethod yX12_layOrder, Cond.selects RX12 yX12_layOrder yX12_layOrder]
def wsL_law_r38 : List Cond := [Cond.code yX12_layOrder cX12_layOrder 8 (some .boolean), Cond.methodLink RX12 363 yX12_has, Cond.instanceMethod yX12_has, Cond.selects RX12 yX12_has yX12_has, Cond.code yX12_has cX12_has 3 (some .boolean), Cond.methodLink RX12 369 yX12_spentAsOrdered, Cond.instanceMethod yX12_spentAsOrdered, Cond.selects RX12 yX12_spentAsOrdered yX12_spentAsOrdered, Cond.code yX12_spentAsOrdered cX12_spentAsOrdered 4 (some .int), Cond.methodLink RL 89 yX11_coupons, Cond.instanceMethod yX11_coupons, Cond.selects RX11 yX11_coupons yX11_coupons, Cond.code yX11_coupons cX11_coupons 4 (some .int), Cond.fieldLink RX11 238 "MoreStory$Trial" "coupons" "I", Cond.methodLink RL 92 yX12_coupons, Cond.instanceMethod yX12_coupons, Cond.selects RX12 yX12_coupons yX12_coupons, Cond.code yX12_coupons cX12_coupons 4 (some .int), Cond.methodLink RL 93 yX11_evenings, Cond.instanceMethod yX11_evenings, Cond.selects RX11 yX11_evenings yX11_evenings, Cond.code yX11_evenings cX11_evenings 8 (some .int), Cond.fieldLink RX11 241 "MoreStory$Trial" "place" "I", Cond.methodLink RX11 244 yX1_habits]
def wsL_law_r39 : List Cond := [Cond.instanceMethod yX1_habits, Cond.selects RX1 yX1_habits yX1_habits, Cond.code yX1_habits cX1_habits 3 (some .int), Cond.methodLink RL 96 yX12_evenings, Cond.instanceMethod yX12_evenings, Cond.selects RX12 yX12_evenings yX12_evenings, Cond.code yX12_evenings cX12_evenings 8 (some .int), Cond.methodLink RL 97 yX11_hear, Cond.instanceMethod yX11_hear, Cond.selects RX11 yX11_hear yX11_hear, Cond.code yX11_hear cX11_hear 2 (some .int), Cond.fieldLink RX11 247 "MoreStory$Home" "heard" "I", Cond.fieldLink RX11 250 "MoreStory$Home" "said" "[Z", Cond.methodLink RL 101 yX12_hear, Cond.instanceMethod yX12_hear, Cond.selects RX12 yX12_hear yX12_hear, Cond.code yX12_hear cX12_hear 2 (some .int), Cond.methodLink RL 102 yX11_hush, Cond.instanceMethod yX11_hush, Cond.selects RX11 yX11_hush yX11_hush, Cond.code yX11_hush cX11_hush 2 (some .int), Cond.methodLink RL 105 yX12_hush, Cond.instanceMethod yX12_hush, Cond.selects RX12 yX12_hush yX12_hush]
def wsL_law_r40 : List Cond := [Cond.code yX12_hush cX12_hush 2 (some .int), Cond.methodLink RL 106 yX11_who, Cond.instanceMethod yX11_who, Cond.selects RX11 yX11_who yX11_who, Cond.code yX11_who cX11_who 3 (some .int), Cond.methodLink RX11 254 yX11_makesSo, Cond.instanceMethod yX11_makesSo, Cond.selects RX11 yX11_makesSo yX11_makesSo, Cond.code yX11_makesSo cX11_makesSo 3 (some .boolean), Cond.methodLink RX11 258 yX10_goesOn, Cond.methodLink RX11 261 yX10_step, Cond.methodLink RL 109 yX12_who, Cond.instanceMethod yX12_who, Cond.selects RX12 yX12_who yX12_who, Cond.code yX12_who cX12_who 3 (some .int), Cond.methodLink RX12 372 yX12_isHeard, Cond.instanceMethod yX12_isHeard, Cond.selects RX12 yX12_isHeard yX12_isHeard, Cond.code yX12_isHeard cX12_isHeard 4 (some .boolean), Cond.methodLink RL 110 yX11_odds, Cond.instanceMethod yX11_odds, Cond.selects RX11 yX11_odds yX11_odds, Cond.code yX11_odds cX11_odds 6 (some .long), Cond.constantLong RX11 264 (-9223372036854775808)]
def wsL_law_r41 : List Cond := [Cond.methodLink RX11 266 yX11_lowest, Cond.static yX11_lowest, Cond.code yX11_lowest cX11_lowest 5 (some .long), Cond.methodLink RL 114 yX12_odds, Cond.instanceMethod yX12_odds, Cond.selects RX12 yX12_odds yX12_odds, Cond.code yX12_odds cX12_odds 6 (some .long), Cond.constantLong RX12 378 (-9223372036854775808), Cond.methodLink RX12 380 yX12_lowest, Cond.instanceMethod yX12_lowest, Cond.selects RX12 yX12_lowest yX12_lowest, Cond.code yX12_lowest cX12_lowest 5 (some .long), Cond.methodLink RX12 375 yX12_divisor, Cond.instanceMethod yX12_divisor, Cond.selects RX12 yX12_divisor yX12_divisor, Cond.code yX12_divisor cX12_divisor 6 (some .int), Cond.methodLink RL 115 yX11_mean, Cond.instanceMethod yX11_mean, Cond.selects RX11 yX11_mean yX11_mean, Cond.code yX11_mean cX11_mean 5 (some .long), Cond.methodLink RL 119 yX12_mean, Cond.instanceMethod yX12_mean, Cond.selects RX12 yX12_mean yX12_mean, Cond.code yX12_mean cX12_mean 4 (some .long)]
def wsL_law_r42 : List Cond := [Cond.methodLink RX12 384 yX12_on, Cond.methodLink RL 120 yX11_book, Cond.instanceMethod yX11_book, Cond.selects RX11 yX11_book yX11_book, Cond.code yX11_book cX11_book 2 (some .int), Cond.fieldLink RX11 270 "MoreStory$Home" "booked" "I", Cond.fieldLink RX11 273 "MoreStory$Home" "book" "[I", Cond.methodLink RL 123 yX12_book, Cond.instanceMethod yX12_book, Cond.selects RX12 yX12_book yX12_book, Cond.code yX12_book cX12_book 2 (some .int), Cond.methodLink RL 124 yX11_looked, Cond.instanceMethod yX11_looked, Cond.selects RX11 yX11_looked yX11_looked, Cond.code yX11_looked cX11_looked 2 (some .int), Cond.methodLink RL 127 yX12_looked, Cond.instanceMethod yX12_looked, Cond.selects RX12 yX12_looked yX12_looked, Cond.code yX12_looked cX12_looked 3 (some .int), Cond.methodLink RL 128 yX11_judge, Cond.instanceMethod yX11_judge, Cond.selects RX11 yX11_judge yX11_judge, Cond.code yX11_judge cX11_judge 4 (some .int), Cond.methodLink RX11 276 yX11_holds]
def wsL_law_r43 : List Cond := [Cond.instanceMethod yX11_holds, Cond.selects RX11 yX11_holds yX11_holds, Cond.code yX11_holds cX11_holds 4 (some .boolean), Cond.methodLink RL 131 yX12_judge, Cond.instanceMethod yX12_judge, Cond.selects RX12 yX12_judge yX12_judge, Cond.code yX12_judge cX12_judge 4 (some .int), Cond.methodLink RX12 387 yX12_isTape, Cond.instanceMethod yX12_isTape, Cond.selects RX12 yX12_isTape yX12_isTape, Cond.code yX12_isTape cX12_isTape 2 (some .boolean), Cond.methodLink RL 132 yX11_image, Cond.instanceMethod yX11_image, Cond.selects RX11 yX11_image yX11_image, Cond.code yX11_image cX11_image 1 (some .int), Cond.fieldLink RX11 283 "MoreStory" "imaged" "Z", Cond.methodLink RX11 280 yX1_copy, Cond.methodLink RL 135 yX12_image, Cond.instanceMethod yX12_image, Cond.selects RX12 yX12_image yX12_image, Cond.code yX12_image cX12_image 2 (some .int), Cond.methodLink RL 136 yX11_undo, Cond.instanceMethod yX11_undo, Cond.selects RX11 yX11_undo yX11_undo]
def wsL_law_r44 : List Cond := [Cond.code yX11_undo cX11_undo 1 (some .int), Cond.methodLink RL 139 yX12_undo, Cond.instanceMethod yX12_undo, Cond.selects RX12 yX12_undo yX12_undo, Cond.code yX12_undo cX12_undo 2 (some .int), Cond.methodLink RL 140 yX11_act, Cond.instanceMethod yX11_act, Cond.selects RX11 yX11_act yX11_act, Cond.code yX11_act cX11_act 5 (some .int), Cond.methodLink RX11 287 ⟨"MoreStory$Parent", "hears", "(I)I"⟩, Cond.sameMethod "MoreStory$Parent" "MoreStory$Parent" "hears" "(I)I", Cond.instanceMethod ⟨"MoreStory$Parent", "hears", "(I)I"⟩, Cond.selects RX0 ⟨"MoreStory$Parent", "hears", "(I)I"⟩ yX7_hears, Cond.instanceMethod yX7_hears, Cond.code yX7_hears cX7_hears 2 (some .int), Cond.methodLink RX7 22 ⟨"MoreStory$Strict", "begins", "(I)V"⟩, Cond.sameMethod "MoreStory$Strict" "MoreStory$Parent" "begins" "(I)V", Cond.selects RX0 ⟨"MoreStory$Strict", "begins", "(I)V"⟩ yX4_begins, Cond.instanceMethod yX4_begins, Cond.code yX4_begins cX4_begins 3 none, Cond.selects RX7 ⟨"MoreStory$Strict", "begins", "(I)V"⟩ yX4_begins, Cond.methodLink RX7 26 yX4_hears, Cond.instanceMethod yX4_hears, Cond.code yX4_hears cX4_hears 3 (some .int)]
def wsL_law_r45 : List Cond := [Cond.selects RX3 ⟨"MoreStory$Parent", "hears", "(I)I"⟩ yX3_hears, Cond.instanceMethod yX3_hears, Cond.code yX3_hears cX3_hears 2 (some .int), Cond.methodLink RX3 21 ⟨"MoreStory$Melting", "begins", "(I)V"⟩, Cond.sameMethod "MoreStory$Melting" "MoreStory$Parent" "begins" "(I)V", Cond.selects RX3 ⟨"MoreStory$Melting", "begins", "(I)V"⟩ yX4_begins, Cond.methodLink RX11 287 yX4_hears, Cond.selects RX4 yX4_hears yX4_hears, Cond.selects RX6 ⟨"MoreStory$Parent", "hears", "(I)I"⟩ yX4_hears, Cond.selects RX7 ⟨"MoreStory$Parent", "hears", "(I)I"⟩ yX7_hears, Cond.selects RX8 ⟨"MoreStory$Parent", "hears", "(I)I"⟩ yX4_hears, Cond.selects RX9 ⟨"MoreStory$Parent", "hears", "(I)I"⟩ yX9_hears, Cond.instanceMethod yX9_hears, Cond.code yX9_hears cX9_hears 2 (some .int), Cond.fieldLink RX9 39 "MoreStory$Told" "v" "I", Cond.sameField "MoreStory$Told" "MoreStory$Parent" "v" "I", Cond.methodLink RX9 28 ⟨"MoreStory$Told", "begins", "(I)V"⟩, Cond.sameMethod "MoreStory$Told" "MoreStory$Parent" "begins" "(I)V", Cond.selects RX9 ⟨"MoreStory$Told", "begins", "(I)V"⟩ yX4_begins, Cond.methodLink RX11 291 ⟨"MoreStory$Parent", "gives", "(I)I"⟩, Cond.sameMethod "MoreStory$Parent" "MoreStory$Parent" "gives" "(I)I", Cond.selects RX0 ⟨"MoreStory$Parent", "gives", "(I)I"⟩ yX4_gives, Cond.instanceMethod yX4_gives, Cond.code yX4_gives cX4_gives 2 (some .int)]
def wsL_law_r46 : List Cond := [Cond.methodLink RX4 40 ⟨"MoreStory$Parent", "begins", "(I)V"⟩, Cond.sameMethod "MoreStory$Parent" "MoreStory$Parent" "begins" "(I)V", Cond.selects RX0 ⟨"MoreStory$Parent", "begins", "(I)V"⟩ yX4_begins, Cond.selects RX3 ⟨"MoreStory$Parent", "begins", "(I)V"⟩ yX4_begins, Cond.methodLink RX4 40 yX4_begins, Cond.selects RX4 yX4_begins yX4_begins, Cond.selects RX6 ⟨"MoreStory$Parent", "begins", "(I)V"⟩ yX4_begins, Cond.selects RX7 ⟨"MoreStory$Parent", "begins", "(I)V"⟩ yX4_begins, Cond.selects RX8 ⟨"MoreStory$Parent", "begins", "(I)V"⟩ yX4_begins, Cond.selects RX9 ⟨"MoreStory$Parent", "begins", "(I)V"⟩ yX4_begins, Cond.methodLink RX4 44 ⟨"MoreStory$Parent", "hears", "(I)I"⟩, Cond.methodLink RX4 44 yX4_hears, Cond.instanceMethod ⟨"MoreStory$Parent", "gives", "(I)I"⟩, Cond.selects RX3 ⟨"MoreStory$Parent", "gives", "(I)I"⟩ yX3_gives, Cond.instanceMethod yX3_gives, Cond.code yX3_gives cX3_gives 2 (some .int), Cond.methodLink RX3 31 yX6_gives, Cond.sameMethod "MoreStory$Soft" "MoreStory$Soft" "gives" "(I)I", Cond.instanceMethod yX6_gives, Cond.code yX6_gives cX6_gives 2 (some .int), Cond.methodLink RX6 17 ⟨"MoreStory$Soft", "begins", "(I)V"⟩, Cond.sameMethod "MoreStory$Soft" "MoreStory$Parent" "begins" "(I)V", Cond.selects RX3 ⟨"MoreStory$Soft", "begins", "(I)V"⟩ yX4_begins, Cond.selects RX6 ⟨"MoreStory$Soft", "begins", "(I)V"⟩ yX4_begins]
def wsL_law_r47 : List Cond := [Cond.methodLink RX6 23 yX4_gives, Cond.methodLink RX11 291 yX4_gives, Cond.selects RX4 yX4_gives yX4_gives, Cond.selects RX6 ⟨"MoreStory$Parent", "gives", "(I)I"⟩ yX6_gives, Cond.selects RX7 ⟨"MoreStory$Parent", "gives", "(I)I"⟩ yX4_gives, Cond.selects RX8 ⟨"MoreStory$Parent", "gives", "(I)I"⟩ yX4_gives, Cond.selects RX9 ⟨"MoreStory$Parent", "gives", "(I)I"⟩ yX9_gives, Cond.instanceMethod yX9_gives, Cond.code yX9_gives cX9_gives 2 (some .int), Cond.methodLink RX11 294 ⟨"MoreStory$Parent", "tells", "(I)I"⟩, Cond.sameMethod "MoreStory$Parent" "MoreStory$Parent" "tells" "(I)I", Cond.instanceMethod ⟨"MoreStory$Parent", "tells", "(I)I"⟩, Cond.selects RX0 ⟨"MoreStory$Parent", "tells", "(I)I"⟩ yX0_tells, Cond.instanceMethod yX0_tells, Cond.code yX0_tells cX0_tells 2 (some .int), Cond.fieldLink RX0 31 "MoreStory$Fair" "i" "I", Cond.sameField "MoreStory$Fair" "MoreStory$Parent" "i" "I", Cond.methodLink RX0 27 ⟨"MoreStory$Fair", "begins", "(I)V"⟩, Cond.sameMethod "MoreStory$Fair" "MoreStory$Parent" "begins" "(I)V", Cond.selects RX0 ⟨"MoreStory$Fair", "begins", "(I)V"⟩ yX4_begins, Cond.code yX4_tells cX4_tells 2 (some .int), Cond.selects RX3 ⟨"MoreStory$Parent", "tells", "(I)I"⟩ yX4_tells, Cond.instanceMethod yX4_tells, Cond.methodLink RX4 48 ⟨"MoreStory$Parent", "gives", "(I)I"⟩]
def wsL_law_r48 : List Cond := [Cond.methodLink RX4 48 yX4_gives, Cond.methodLink RX11 294 yX4_tells, Cond.selects RX4 yX4_tells yX4_tells, Cond.selects RX6 ⟨"MoreStory$Parent", "tells", "(I)I"⟩ yX4_tells, Cond.selects RX7 ⟨"MoreStory$Parent", "tells", "(I)I"⟩ yX4_tells, Cond.selects RX8 ⟨"MoreStory$Parent", "tells", "(I)I"⟩ yX8_tells, Cond.instanceMethod yX8_tells, Cond.code yX8_tells cX8_tells 2 (some .int), Cond.methodLink RX8 23 ⟨"MoreStory$Tired", "begins", "(I)V"⟩, Cond.sameMethod "MoreStory$Tired" "MoreStory$Parent" "begins" "(I)V", Cond.selects RX8 ⟨"MoreStory$Tired", "begins", "(I)V"⟩ yX4_begins, Cond.selects RX9 ⟨"MoreStory$Tired", "begins", "(I)V"⟩ yX4_begins, Cond.methodLink RX8 27 yX4_tells, Cond.superclass RX8 RX4, Cond.methodLink RX8 31 ⟨"MoreStory$Tired", "gives", "(I)I"⟩, Cond.sameMethod "MoreStory$Tired" "MoreStory$Parent" "gives" "(I)I", Cond.selects RX8 ⟨"MoreStory$Tired", "gives", "(I)I"⟩ yX4_gives, Cond.selects RX9 ⟨"MoreStory$Tired", "gives", "(I)I"⟩ yX9_gives, Cond.selects RX9 ⟨"MoreStory$Parent", "tells", "(I)I"⟩ yX8_tells, Cond.methodLink RL 143 yX12_act, Cond.instanceMethod yX12_act, Cond.selects RX12 yX12_act yX12_act, Cond.code yX12_act cX12_act 4 (some .int), Cond.methodLink RX12 396 yX12_hearsAct]
def wsL_law_r49 : List Cond := [Cond.instanceMethod yX12_hearsAct, Cond.selects RX12 yX12_hearsAct yX12_hearsAct, Cond.code yX12_hearsAct cX12_hearsAct 3 (some .int), Cond.methodLink RX12 390 yX12_body, Cond.instanceMethod yX12_body, Cond.selects RX12 yX12_body yX12_body, Cond.code yX12_body cX12_body 2 none, Cond.methodLink RX12 393 yX12_parentHears, Cond.instanceMethod yX12_parentHears, Cond.selects RX12 yX12_parentHears yX12_parentHears, Cond.code yX12_parentHears cX12_parentHears 3 (some .int), Cond.methodLink RX12 405 yX12_givesAct, Cond.instanceMethod yX12_givesAct, Cond.selects RX12 yX12_givesAct yX12_givesAct, Cond.code yX12_givesAct cX12_givesAct 4 (some .int), Cond.methodLink RX12 402 yX12_softGives, Cond.instanceMethod yX12_softGives, Cond.selects RX12 yX12_softGives yX12_softGives, Cond.code yX12_softGives cX12_softGives 3 (some .int), Cond.methodLink RX12 399 yX12_parentGives, Cond.instanceMethod yX12_parentGives, Cond.selects RX12 yX12_parentGives yX12_parentGives, Cond.code yX12_parentGives cX12_parentGives 3 (some .int), Cond.methodLink RX12 411 yX12_tellsAct]
def wsL_law_r50 : List Cond := [Cond.instanceMethod yX12_tellsAct, Cond.selects RX12 yX12_tellsAct yX12_tellsAct, Cond.code yX12_tellsAct cX12_tellsAct 4 (some .int), Cond.methodLink RX12 408 yX12_parentTells, Cond.instanceMethod yX12_parentTells, Cond.selects RX12 yX12_parentTells yX12_parentTells, Cond.code yX12_parentTells cX12_parentTells 3 (some .int), Cond.methodLink RL 144 yX11_trace, Cond.instanceMethod yX11_trace, Cond.selects RX11 yX11_trace yX11_trace, Cond.code yX11_trace cX11_trace 2 (some .int), Cond.methodLink RL 147 yX12_trace, Cond.instanceMethod yX12_trace, Cond.selects RX12 yX12_trace yX12_trace, Cond.code yX12_trace cX12_trace 2 (some .int), Cond.methodLink RL 148 yX11_taken, Cond.instanceMethod yX11_taken, Cond.selects RX11 yX11_taken yX11_taken, Cond.code yX11_taken cX11_taken 6 (some .int), Cond.fieldLink RX11 297 "MoreStory" "ABOVE" "[I", Cond.methodLink RL 151 yX12_taken, Cond.instanceMethod yX12_taken, Cond.selects RX12 yX12_taken yX12_taken, Cond.code yX12_taken cX12_taken 4 (some .int)]
def wsL_law_r51 : List Cond := [Cond.methodLink RL 152 yX11_count, Cond.instanceMethod yX11_count, Cond.selects RX11 yX11_count yX11_count, Cond.code yX11_count cX11_count 2 (some .int), Cond.methodLink RL 155 yX12_count, Cond.instanceMethod yX12_count, Cond.selects RX12 yX12_count yX12_count, Cond.code yX12_count cX12_count 2 (some .int), Cond.methodLink RL 156 yX11_tape, Cond.instanceMethod yX11_tape, Cond.selects RX11 yX11_tape yX11_tape, Cond.code yX11_tape cX11_tape 5 (some .int), Cond.methodLink RL 159 yX12_tape, Cond.instanceMethod yX12_tape, Cond.selects RX12 yX12_tape yX12_tape, Cond.code yX12_tape cX12_tape 5 (some .int), Cond.methodLink RL 162 yX11_item, Cond.instanceMethod yX11_item, Cond.selects RX11 yX11_item yX11_item, Cond.code yX11_item cX11_item 5 (some .int), Cond.methodLink RX11 300 yX11_cut, Cond.static yX11_cut, Cond.code yX11_cut cX11_cut 3 (some .long), Cond.methodLink RL 166 yX12_item]
def wsL_law_r52 : List Cond := [Cond.instanceMethod yX12_item, Cond.selects RX12 yX12_item yX12_item, Cond.code yX12_item cX12_item 5 (some .int), Cond.methodLink RX12 414 yX12_narrow, Cond.instanceMethod yX12_narrow, Cond.selects RX12 yX12_narrow yX12_narrow, Cond.code yX12_narrow cX12_narrow 4 (some .long), Cond.methodLink RL 167 yX11_read, Cond.instanceMethod yX11_read, Cond.selects RX11 yX11_read yX11_read, Cond.code yX11_read cX11_read 3 (some .long), Cond.methodLink RL 170 yX12_read, Cond.instanceMethod yX12_read, Cond.selects RX12 yX12_read yX12_read, Cond.code yX12_read cX12_read 3 (some .long), Cond.methodLink RL 171 yX11_shift, Cond.instanceMethod yX11_shift, Cond.selects RX11 yX11_shift yX11_shift, Cond.code yX11_shift cX11_shift 6 (some .int), Cond.methodLink RL 175 yX12_shift, Cond.instanceMethod yX12_shift, Cond.selects RX12 yX12_shift yX12_shift, Cond.code yX12_shift cX12_shift 7 (some .int)]
def wsL_law_r53 : List Cond := [Cond.methodLink RX3 27 ⟨"MoreStory$Soft", "hears", "(I)I"⟩, Cond.sameMethod "MoreStory$Soft" "MoreStory$Parent" "hears" "(I)I", Cond.methodLink RX9 36 ⟨"MoreStory$Tired", "hears", "(I)I"⟩, Cond.sameMethod "MoreStory$Tired" "MoreStory$Parent" "hears" "(I)I", Cond.methodLink RX9 32 ⟨"MoreStory$Tired", "gives", "(I)I"⟩, Cond.methodLink RX0 34 ⟨"MoreStory$Strict", "tells", "(I)I"⟩, Cond.sameMethod "MoreStory$Strict" "MoreStory$Parent" "tells" "(I)I", Cond.superclass RX4 "java/lang/Object"]
def wsL_law : List Cond := (wsL_law_r1 ++ (wsL_law_r2 ++ (wsL_law_r3 ++ (wsL_law_r4 ++ (wsL_law_r5 ++ (wsL_law_r6 ++ (wsL_law_r7 ++ (wsL_law_r8 ++ (wsL_law_r9 ++ (wsL_law_r10 ++ (wsL_law_r11 ++ (wsL_law_r12 ++ (wsL_law_r13 ++ (wsL_law_r14 ++ (wsL_law_r15 ++ (wsL_law_r16 ++ (wsL_law_r17 ++ (wsL_law_r18 ++ (wsL_law_r19 ++ (wsL_law_r20 ++ (wsL_law_r21 ++ (wsL_law_r22 ++ (wsL_law_r23 ++ (wsL_law_r24 ++ (wsL_law_r25 ++ (wsL_law_r26 ++ (wsL_law_r27 ++ (wsL_law_r28 ++ (wsL_law_r29 ++ (wsL_law_r30 ++ (wsL_law_r31 ++ (wsL_law_r32 ++ (wsL_law_r33 ++ (wsL_law_r34 ++ (wsL_law_r35 ++ (wsL_law_r36 ++ (wsL_law_r37 ++ (wsL_law_r38 ++ (wsL_law_r39 ++ (wsL_law_r40 ++ (wsL_law_r41 ++ (wsL_law_r42 ++ (wsL_law_r43 ++ (wsL_law_r44 ++ (wsL_law_r45 ++ (wsL_law_r46 ++ (wsL_law_r47 ++ (wsL_law_r48 ++ (wsL_law_r49 ++ (wsL_law_r50 ++ (wsL_law_r51 ++ (wsL_law_r52 ++ wsL_law_r53)))))))))))))))))))))))))))))))))))))))))))))))))))) ++ wsX110 ++ wsX120 ++ wsX10 ++ wsX100 ++ wsX50 ++ wsX60 ++ wsX70 ++ wsX80 ++ wsX30 ++ wsX00 ++ wsX90 ++ wsX40 ++ wsX20 ++ ([] : List Cond)
theorem inlX0 : ∀ w ∈ wsX00, w ∈ wsL_law := fun _ h => List.mem_append_left _ (List.mem_append_left _ (List.mem_append_left _ (List.mem_append_left _ (List.mem_append_right _ h))))
theorem inlX1 : ∀ w ∈ wsX10, w ∈ wsL_law := fun _ h => List.mem_append_left _ (List.mem_append_left _ (List.mem_append_left _ (List.mem_append_left _ (List.mem_append_left _ (List.mem_append_left _ (List.mem_append_left _ (List.mem_append_left _ (List.mem_append_left _ (List.mem_append_left _ (List.mem_append_left _ (List.mem_append_right _ h)))))))))))
theorem inlX2 : ∀ w ∈ wsX20, w ∈ wsL_law := fun _ h => List.mem_append_left _ (List.mem_append_right _ h)
theorem inlX3 : ∀ w ∈ wsX30, w ∈ wsL_law := fun _ h => List.mem_append_left _ (List.mem_append_left _ (List.mem_append_left _ (List.mem_append_left _ (List.mem_append_left _ (List.mem_append_right _ h)))))
theorem inlX4 : ∀ w ∈ wsX40, w ∈ wsL_law := fun _ h => List.mem_append_left _ (List.mem_append_left _ (List.mem_append_right _ h))
theorem inlX5 : ∀ w ∈ wsX50, w ∈ wsL_law := fun _ h => List.mem_append_left _ (List.mem_append_left _ (List.mem_append_left _ (List.mem_append_left _ (List.mem_append_left _ (List.mem_append_left _ (List.mem_append_left _ (List.mem_append_left _ (List.mem_append_left _ (List.mem_append_right _ h)))))))))
theorem inlX6 : ∀ w ∈ wsX60, w ∈ wsL_law := fun _ h => List.mem_append_left _ (List.mem_append_left _ (List.mem_append_left _ (List.mem_append_left _ (List.mem_append_left _ (List.mem_append_left _ (List.mem_append_left _ (List.mem_append_left _ (List.mem_append_right _ h))))))))
theorem inlX7 : ∀ w ∈ wsX70, w ∈ wsL_law := fun _ h => List.mem_append_left _ (List.mem_append_left _ (List.mem_append_left _ (List.mem_append_left _ (List.mem_append_left _ (List.mem_append_left _ (List.mem_append_left _ (List.mem_append_right _ h)))))))
theorem inlX8 : ∀ w ∈ wsX80, w ∈ wsL_law := fun _ h => List.mem_append_left _ (List.mem_append_left _ (List.mem_append_left _ (List.mem_append_left _ (List.mem_append_left _ (List.mem_append_left _ (List.mem_append_right _ h))))))
theorem inlX9 : ∀ w ∈ wsX90, w ∈ wsL_law := fun _ h => List.mem_append_left _ (List.mem_append_left _ (List.mem_append_left _ (List.mem_append_right _ h)))
theorem inlX10 : ∀ w ∈ wsX100, w ∈ wsL_law := fun _ h => List.mem_append_left _ (List.mem_append_left _ (List.mem_append_left _ (List.mem_append_left _ (List.mem_append_left _ (List.mem_append_left _ (List.mem_append_left _ (List.mem_append_left _ (List.mem_append_left _ (List.mem_append_left _ (List.mem_append_right _ h))))))))))
theorem inlX11 : ∀ w ∈ wsX110, w ∈ wsL_law := fun _ h => List.mem_append_left _ (List.mem_append_left _ (List.mem_append_left _ (List.mem_append_left _ (List.mem_append_left _ (List.mem_append_left _ (List.mem_append_left _ (List.mem_append_left _ (List.mem_append_left _ (List.mem_append_left _ (List.mem_append_left _ (List.mem_append_left _ (List.mem_append_left _ (List.mem_append_right _ h)))))))))))))
theorem inlX12 : ∀ w ∈ wsX120, w ∈ wsL_law := fun _ h => List.mem_append_left _ (List.mem_append_left _ (List.mem_append_left _ (List.mem_append_left _ (List.mem_append_left _ (List.mem_append_left _ (List.mem_append_left _ (List.mem_append_left _ (List.mem_append_left _ (List.mem_append_left _ (List.mem_append_left _ (List.mem_append_left _ (List.mem_append_right _ h))))))))))))
abbrev vwCl : List vw_C := [(RX0, TX0, 4), (RX1, TX1, 20), (RX2, TX2, 5), (RX3, TX3, 4), (RX4, TX4, 4), (RX5, TX5, 9), (RX6, TX6, 4), (RX7, TX7, 4), (RX8, TX8, 4), (RX9, TX9, 4), (RX10, TX10, 7), (RX11, TX11, 12), (RX12, TX12, 76)]
