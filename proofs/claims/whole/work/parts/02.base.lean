/-! worlds as lists of parts -/
def zfl (Cs : List va_W) : va_W := Cs.flatten
def zty (ct : Nat → ClassId) : List (ClassId × FieldType) := [(ct 0, .int), (ct 1, .long), (ct 2, .boolean), (ct 3, .object "MoreStory$Parent"), (ct 4, .array .long)]
def zset : List va_W → List Nat → List va_W → List va_W
  | Cs, i :: is, c :: cs => zset (Cs.set i c) is cs
  | Cs, _, _ => Cs
theorem zfl_at : ∀ {Cs : List va_W} {i : Nat} {w : va_W}, Cs[i]? = some w → ∃ o : Nat, ∀ j : Nat, j < w.length → (zfl Cs)[o + j]? = w[j]? ∧ ∀ e : Nat × va_E, (zfl Cs).set (o + j) e = zfl (Cs.set i (w.set j e))
  | [], i, w, h => by simp at h
  | a :: t, 0, w, h => by
    have h : a = w := by simpa using h
    subst h
    refine ⟨0, fun j hj => ⟨?_, fun e => ?_⟩⟩
    · show (a ++ t.flatten)[0 + j]? = a[j]?
      rw [Nat.zero_add, List.getElem?_append_left hj]
    · show (a ++ t.flatten).set (0 + j) e = a.set j e ++ t.flatten
      rw [Nat.zero_add, List.set_append_left _ _ hj]
  | a :: t, i + 1, w, h => by
    have h : t[i]? = some w := by simpa using h
    obtain ⟨o, ho⟩ := zfl_at h
    refine ⟨a.length + o, fun j hj => ⟨?_, fun e => ?_⟩⟩
    · show (a ++ t.flatten)[a.length + o + j]? = w[j]?
      rw [List.getElem?_append_right (by omega), show a.length + o + j - a.length = o + j by omega]
      exact (ho j hj).1
    · show (a ++ t.flatten).set (a.length + o + j) e = a ++ (t.set i (w.set j e)).flatten
      rw [List.set_append_right _ _ (by omega), show a.length + o + j - a.length = o + j by omega]
      exact congrArg (fun q => a ++ q) ((ho j hj).2 e)
theorem zfl_cell {Cs : List va_W} {i j : Nat} {w : va_W} {x : Nat × va_E} (hi : Cs[i]? = some w) (hj : w[j]? = some x) : ∃ k : Nat, (zfl Cs)[k]? = some x ∧ ∀ e : Nat × va_E, (zfl Cs).set k e = zfl (Cs.set i (w.set j e)) := by
  obtain ⟨o, ho⟩ := zfl_at hi
  obtain ⟨h1, h2⟩ := ho j (List.getElem?_eq_some_iff.mp hj).1
  exact ⟨o + j, h1.trans hj, h2⟩
theorem zP_mem {D : va_G} {cl : List vw_C} {ws : va_W} {H : Heap} : va_P D cl ws H ↔ ∀ q ∈ ws, va_at D cl q H := by
  constructor
  · intro h q hq
    obtain ⟨k, hk⟩ := List.getElem?_of_mem hq
    exact h k q hk
  · intro h k q hk
    exact h q (List.mem_of_getElem? hk)
theorem zfl_mem {Cs : List va_W} {q : Nat × va_E} : q ∈ zfl Cs ↔ ∃ (k : Nat) (w : va_W), Cs[k]? = some w ∧ q ∈ w := by
  unfold zfl
  rw [List.mem_flatten]
  constructor
  · rintro ⟨w, h1, h2⟩
    obtain ⟨k, hk⟩ := List.getElem?_of_mem h1
    exact ⟨k, w, hk, h2⟩
  · rintro ⟨k, w, h1, h2⟩
    exact ⟨w, List.mem_of_getElem? h1, h2⟩
/-- the addresses are apart, by parts -/
def zD (A : Nat → Prop) (Cs : List va_W) : Prop := (∀ (i : Nat) (w : va_W), Cs[i]? = some w → va_D A w) ∧ ∀ (i j : Nat) (w1 w2 : va_W), Cs[i]? = some w1 → Cs[j]? = some w2 → i ≠ j → ∀ x ∈ w1, ∀ y ∈ w2, x.1 ≠ y.1
theorem zD_app {A : Nat → Prop} {a b : va_W} : va_D A (a ++ b) ↔ va_D A a ∧ va_D A b ∧ ∀ x ∈ a, ∀ y ∈ b, x.1 ≠ y.1 := by
  constructor
  · intro h
    have hl : ∀ (i : Nat) (q : Nat × va_E), a[i]? = some q → (a ++ b)[i]? = some q := fun i q hq => by
      rw [List.getElem?_append_left (List.getElem?_eq_some_iff.mp hq).1]; exact hq
    have hr : ∀ (i : Nat) (q : Nat × va_E), b[i]? = some q → (a ++ b)[a.length + i]? = some q := fun i q hq => by
      rw [List.getElem?_append_right (by omega), show a.length + i - a.length = i by omega]; exact hq
    refine ⟨⟨fun i j p q hp hq e => h.1 i j p q (hl i p hp) (hl j q hq) e, fun k q hq => h.2 k q (hl k q hq)⟩, ⟨fun i j p q hp hq e => ?_, fun k q hq => h.2 _ q (hr k q hq)⟩, fun x hx y hy e => ?_⟩
    · have := h.1 _ _ p q (hr i p hp) (hr j q hq) e
      omega
    · obtain ⟨i, hi⟩ := List.getElem?_of_mem hx
      obtain ⟨j, hj⟩ := List.getElem?_of_mem hy
      have h1 := h.1 _ _ x y (hl i x hi) (hr j y hj) e
      have h2 := (List.getElem?_eq_some_iff.mp hi).1
      omega
  · rintro ⟨h1, h2, h3⟩
    exact va_D.app h1 h2 (fun i j p q hp hq => h3 p (List.mem_of_getElem? hp) q (List.mem_of_getElem? hq))
theorem zD_iff {A : Nat → Prop} : ∀ {Cs : List va_W}, va_D A (zfl Cs) ↔ zD A Cs
  | [] => by
    constructor
    · intro _
      exact ⟨fun i w h => by simp at h, fun i j w1 w2 h => by simp at h⟩
    · intro _
      exact ⟨fun i j p q h => by simp [zfl] at h, fun k q h => by simp [zfl] at h⟩
  | a :: t => by
    show va_D A (a ++ zfl t) ↔ _
    rw [zD_app, zD_iff]
    constructor
    · rintro ⟨h1, h2, h3⟩
      refine ⟨fun i w h => ?_, fun i j w1 w2 hi hj ne x hx y hy => ?_⟩
      · cases i with
        | zero => have h : a = w := by simpa using h
                  exact h ▸ h1
        | succ i => exact h2.1 i w (by simpa using h)
      · cases i with
        | zero =>
          have hi : a = w1 := by simpa using hi
          subst hi
          cases j with
          | zero => exact absurd rfl ne
          | succ j => exact h3 x hx y (zfl_mem.mpr ⟨j, w2, by simpa using hj, hy⟩)
        | succ i =>
          have hi : t[i]? = some w1 := by simpa using hi
          cases j with
          | zero =>
            have hj : a = w2 := by simpa using hj
            subst hj
            exact fun e => h3 y hy x (zfl_mem.mpr ⟨i, w1, hi, hx⟩) e.symm
          | succ j => exact h2.2 i j w1 w2 hi (by simpa using hj) (fun e => ne (by rw [e])) x hx y hy
    · rintro ⟨h1, h2⟩
      refine ⟨h1 0 a rfl, ⟨fun i w h => h1 (i + 1) w (by simpa using h), fun i j w1 w2 hi hj ne => h2 (i + 1) (j + 1) w1 w2 (by simpa using hi) (by simpa using hj) (by omega)⟩, fun x hx y hy => ?_⟩
      obtain ⟨k, w, hk, hw⟩ := zfl_mem.mp hy
      exact h2 0 (k + 1) a w rfl (by simpa using hk) (by omega) x hx y hw
theorem zset_get : ∀ {is : List Nat} {C1 Cs : List va_W}, va_nd is = true → ∀ (k : Nat) (w : va_W), (zset Cs is C1)[k]? = some w → is.length = C1.length → (∃ j : Nat, is[j]? = some k ∧ C1[j]? = some w) ∨ (k ∉ is ∧ Cs[k]? = some w)
  | [], C1, Cs, _, k, w, h, _ => Or.inr ⟨by simp, by simpa [zset] using h⟩
  | i :: is, [], Cs, _, k, w, h, hl => by simp at hl
  | i :: is, c :: cs, Cs, hn, k, w, h, hl => by
    have hn2 : va_nd is = true ∧ i ∉ is := by
      simp only [va_nd, Bool.and_eq_true, Bool.not_eq_true', List.elem_eq_mem, decide_eq_false_iff_not] at hn
      exact ⟨hn.2, by simpa using hn.1⟩
    rcases zset_get (Cs := Cs.set i c) hn2.1 k w h (by simpa using hl) with ⟨j, h1, h2⟩ | ⟨h1, h2⟩
    · exact Or.inl ⟨j + 1, by simpa using h1, by simpa using h2⟩
    · by_cases e : i = k
      · subst e
        left
        refine ⟨0, rfl, ?_⟩
        have hlt := (List.getElem?_eq_some_iff.mp h2).1
        rw [List.length_set] at hlt
        rw [List.getElem?_set_self hlt] at h2
        simpa using h2
      · right
        rw [List.getElem?_set_ne e] at h2
        exact ⟨by simp only [List.mem_cons, not_or]; exact ⟨fun q => e q.symm, h1⟩, h2⟩
theorem zplace {Cs Cc : List va_W} {is : List Nat} (h : is.map (fun i => Cs[i]?) = Cc.map some) {j : Nat} {w : va_W} (hj : Cc[j]? = some w) : ∃ i : Nat, is[j]? = some i ∧ Cs[i]? = some w := by
  have h1 : (is.map (fun i => Cs[i]?))[j]? = some (some w) := by rw [h, List.getElem?_map, hj]; rfl
  rw [List.getElem?_map] at h1
  cases hi : is[j]? with
  | none => rw [hi] at h1; cases h1
  | some i => rw [hi] at h1; exact ⟨i, rfl, Option.some.inj h1⟩
theorem zsubP {D : va_G} {cl : List vw_C} {Cs Cc : List va_W} {is : List Nat} {H : Heap} (hP : va_P D cl (zfl Cs) H) (h : is.map (fun i => Cs[i]?) = Cc.map some) : va_P D cl (zfl Cc) H := by
  rw [zP_mem] at hP ⊢
  intro q hq
  obtain ⟨j, w, hj, hw⟩ := zfl_mem.mp hq
  obtain ⟨i, -, hi⟩ := zplace h hj
  exact hP q (zfl_mem.mpr ⟨i, w, hi, hw⟩)
theorem zinj : ∀ {is : List Nat}, va_nd is = true → ∀ i j k : Nat, is[i]? = some k → is[j]? = some k → i = j
  | [], _, i, j, k, h, _ => by simp at h
  | a :: is, hn, i, j, k, hi, hj => by
    have hn2 : va_nd is = true ∧ a ∉ is := by
      simp only [va_nd, Bool.and_eq_true, Bool.not_eq_true', List.elem_eq_mem, decide_eq_false_iff_not] at hn
      exact ⟨hn.2, by simpa using hn.1⟩
    cases i with
    | zero =>
      cases j with
      | zero => rfl
      | succ j =>
        have e : a = k := by simpa using hi
        exact absurd (List.mem_of_getElem? (show is[j]? = some k by simpa using hj)) (e ▸ hn2.2)
    | succ i =>
      cases j with
      | zero =>
        have e : a = k := by simpa using hj
        exact absurd (List.mem_of_getElem? (show is[i]? = some k by simpa using hi)) (e ▸ hn2.2)
      | succ j => rw [zinj hn2.1 i j k (by simpa using hi) (by simpa using hj)]
theorem zsubD {A : Nat → Prop} {Cs Cc : List va_W} {is : List Nat} (hD : va_D A (zfl Cs)) (hn : va_nd is = true) (h : is.map (fun i => Cs[i]?) = Cc.map some) : va_D A (zfl Cc) := by
  rw [zD_iff] at hD ⊢
  refine ⟨fun j w hj => ?_, fun i j w1 w2 hi hj ne => ?_⟩
  · obtain ⟨i, -, hi⟩ := zplace h hj
    exact hD.1 i w hi
  · obtain ⟨a, ha, ha2⟩ := zplace h hi
    obtain ⟨b, hb, hb2⟩ := zplace h hj
    exact hD.2 a b w1 w2 ha2 hb2 (fun e => ne (zinj hn i j a ha (e ▸ hb)))
theorem zfreeF {A : Nat → Prop} {Cs Cc : List va_W} {is : List Nat} {H0 H : Heap} {locs : List Loc} (hD : va_D A (zfl Cs)) (hS : va_S A H0 H locs) (hA : ∀ q, H0.size ≤ q → A q) (h : is.map (fun i => Cs[i]?) = Cc.map some) : ∀ q, va_A (zfl Cc) H.size q → A q := by
  rintro q (⟨k, e, hk⟩ | hq)
  · obtain ⟨j, w, hj, hw⟩ := zfl_mem.mp (List.mem_of_getElem? hk)
    obtain ⟨i, -, hi⟩ := zplace h hj
    obtain ⟨o, ho⟩ := List.getElem?_of_mem (zfl_mem.mpr ⟨i, w, hi, hw⟩)
    exact hD.2 o _ ho
  · exact hA q (Nat.le_trans hS.1 hq)
theorem zjoin {A : Nat → Prop} {D : va_G} {cl : List vw_C} {Cs Cc C1 : List va_W} {is : List Nat} {H H1 : Heap} (hP : va_P D cl (zfl Cs) H) (hD : va_D A (zfl Cs)) (hn : va_nd is = true) (h : is.map (fun i => Cs[i]?) = Cc.map some) (hl : is.length = C1.length)
    (hk : ∀ q : Nat, q < H.size → ¬ va_A (zfl Cc) H.size q → H1[q]? = H[q]?) (hF : ∀ q, va_A (zfl Cc) H.size q → A q) (hP1 : va_P D cl (zfl C1) H1) (hD1 : va_D (va_A (zfl Cc) H.size) (zfl C1)) : va_P D cl (zfl (zset Cs is C1)) H1 ∧ va_D A (zfl (zset Cs is C1)) := by
  have hD' := zD_iff.mp hD
  have hD1' := zD_iff.mp hD1
  have apart : ∀ (k : Nat) (w : va_W), k ∉ is → Cs[k]? = some w → ∀ q ∈ w, q.1 < H.size ∧ ¬ va_A (zfl Cc) H.size q.1 := by
    intro k w hki hk q hq
    have hlt : q.1 < H.size := by
      obtain ⟨o, ho⟩ := List.getElem?_of_mem (zfl_mem.mpr ⟨k, w, hk, hq⟩)
      exact (hP o q ho).lt
    refine ⟨hlt, ?_⟩
    rintro (⟨k2, e, hk2⟩ | hq2)
    · obtain ⟨j, w2, hj, hw2⟩ := zfl_mem.mp (List.mem_of_getElem? hk2)
      obtain ⟨i, hi, hi2⟩ := zplace h hj
      exact hD'.2 k i w w2 hk hi2 (fun e => hki (e ▸ List.mem_of_getElem? hi)) q hq _ hw2 rfl
    · omega
  constructor
  · rw [zP_mem]
    intro q hq
    obtain ⟨k, w, hkw, hw⟩ := zfl_mem.mp hq
    rcases zset_get hn k w hkw hl with ⟨j, -, h2⟩ | ⟨h1, h2⟩
    · exact zP_mem.mp hP1 q (zfl_mem.mpr ⟨j, w, h2, hw⟩)
    · obtain ⟨g1, g2⟩ := apart k w h1 h2 q hw
      exact (zP_mem.mp hP q (zfl_mem.mpr ⟨k, w, h2, hw⟩)).kept (hk q.1 g1 g2)
  · rw [zD_iff]
    refine ⟨fun k w hkw => ?_, fun i j w1 w2 hi hj ne x hx y hy => ?_⟩
    · rcases zset_get hn k w hkw hl with ⟨j, -, h2⟩ | ⟨h1, h2⟩
      · exact (hD1'.1 j w h2).weaken (fun _ q _ hq => hF _ hq)
      · exact hD'.1 k w h2
    · rcases zset_get hn i w1 hi hl with ⟨a, ha1, ha2⟩ | ⟨ha1, ha2⟩ <;> rcases zset_get hn j w2 hj hl with ⟨b, hb1, hb2⟩ | ⟨hb1, hb2⟩
      · exact hD1'.2 a b w1 w2 ha2 hb2 (fun e => ne (by subst e; rw [ha1] at hb1; exact Option.some.inj hb1)) x hx y hy
      · intro e
        obtain ⟨o, ho⟩ := List.getElem?_of_mem hx
        have := (hD1'.1 a w1 ha2).2 o x ho
        exact (apart j w2 hb1 hb2 y hy).2 (e ▸ this)
      · intro e
        obtain ⟨o, ho⟩ := List.getElem?_of_mem hy
        have := (hD1'.1 b w2 hb2).2 o y ho
        exact (apart i w1 ha1 ha2 x hx).2 (e ▸ this)
      · exact hD'.2 i j w1 w2 ha2 hb2 ne x hx y hy
/-! the written functions' words -/
section ZK
variable {α β γ δ : Type}
def kO (c : Prop) [Decidable c] (x : Option α) : Option α := if c then x else none
def kB (c : Prop) [Decidable c] (x y : Option α) : Option α := if c then x else y
def kL (v : β) (f : β → Option α) : Option α := f v
def kC (x : Option β) (f : β → Option α) : Option α := x.bind f
def kD (x : Option (β × γ)) (f : β → γ → Option α) : Option α := x.bind (fun u => f u.1 u.2)
theorem kO_e {c : Prop} [Decidable c] {x : Option α} {o : α} (h : kO c x = some o) : c ∧ x = some o := by
  unfold kO at h
  split at h
  · exact ⟨by assumption, h⟩
  · cases h
theorem kB_t {c : Prop} [Decidable c] {x y : Option α} {o : Option α} (h : kB c x y = o) (hc : c) : x = o := by
  unfold kB at h
  rwa [if_pos hc] at h
theorem kB_f {c : Prop} [Decidable c] {x y : Option α} {o : Option α} (h : kB c x y = o) (hc : ¬ c) : y = o := by
  unfold kB at h
  rwa [if_neg hc] at h
theorem kL_e {v : β} {f : β → Option α} {o : Option α} (h : kL v f = o) : ∃ z, z = v ∧ f z = o := ⟨v, rfl, h⟩
theorem kC_e {x : Option β} {f : β → Option α} {o : α} (h : kC x f = some o) : ∃ z, x = some z ∧ f z = some o := by
  cases x with
  | none => cases h
  | some z => exact ⟨z, rfl, h⟩
theorem kD_e {x : Option (β × γ)} {f : β → γ → Option α} {o : α} (h : kD x f = some o) : ∃ a b, x = some (a, b) ∧ f a b = some o := by
  cases x with
  | none => cases h
  | some z => exact ⟨z.1, z.2, rfl, h⟩
end ZK
theorem zcat (r : Option Nat) : (va_rf r).category = 1 := by cases r <;> rfl
/-! the judgement over a list of worlds -/
def zJ (p : Program) (l : Launch) (e : Env) (R : Room) (s : State) (m : MethodId) (args : Array Value) (below : List Frame) (meth : Method) (c : Code) (Q : State → Prop) (A : Nat → Prop) (G : va_G) (nL cells slots : Nat) (Cs : List va_W) (lv : List (Nat × Value)) (pc : Nat) (st : List Value) : Prop :=
  ∀ (H : Heap) (locs : List Loc) (ls : Array Slot), va_P G vwCl (zfl Cs) H → va_D A (zfl Cs) → va_S A s.heap H locs → lv_has ls nL lv → W p l e R s m args below meth c H locs cells slots Q (F0 m pc ls st)
def zE (p : Program) (s : State) (m : MethodId) (args : Array Value) (meth : Method) (c : Code) (A : Nat → Prop) (G : va_G) (ct : Nat → ClassId) (nL : Nat) (cc : ByteArray) (own : String) : Prop :=
  p.tables.exec = Jvm.exec ∧ c.code = cc ∧ c.maxLocals = nL ∧ s.vm.findClass own = some m.cls ∧ (∀ w ∈ wsL_law, w.before args s = true) ∧ va_K G vwCl (zty ct) s ∧ (∀ q, s.heap.size ≤ q → A q) ∧ meth.locks = false
section ZJ
variable {p : Program} {l : Launch} {e : Env} {R : Room} {s : State} {m : MethodId} {args : Array Value} {below : List Frame} {meth : Method} {c : Code} {Q : State → Prop} {A : Nat → Prop} {G : va_G} {ct : Nat → ClassId} {nL cells slots : Nat} {cc : ByteArray} {own : String} {Cs : List va_W} {lv lv' : List (Nat × Value)} {pc : Nat} {st : List Value}
theorem z_iconst (E : zE p s m args meth c A G ct nL cc own) {n : Int} {v : Int32} (hdg : decode cc pc = .ok (.iconst n, 1)) (hv : Int32.ofInt n = v) (k : zJ p l e R s m args below meth c Q A G nL cells slots Cs lv (pc + 1) (.int v :: st)) : zJ p l e R s m args below meth c Q A G nL cells slots Cs lv pc st := by
  intro H locs ls hP hD hS hl
  exact lv_iconst E.1 E.2.1 hdg hv (k H locs ls hP hD hS hl)
theorem z_bipush (E : zE p s m args meth c A G ct nL cc own) {n : Int} {v : Int32} (hdg : decode cc pc = .ok (.bipush n, 2)) (hv : (Int8.ofInt n).toInt32 = v) (k : zJ p l e R s m args below meth c Q A G nL cells slots Cs lv (pc + 2) (.int v :: st)) : zJ p l e R s m args below meth c Q A G nL cells slots Cs lv pc st := by
  intro H locs ls hP hD hS hl
  exact lv_bipush E.1 E.2.1 hdg hv (k H locs ls hP hD hS hl)
theorem z_sipush (E : zE p s m args meth c A G ct nL cc own) {n : Int} {v : Int32} (hdg : decode cc pc = .ok (.sipush n, 3)) (hv : (Int16.ofInt n).toInt32 = v) (k : zJ p l e R s m args below meth c Q A G nL cells slots Cs lv (pc + 3) (.int v :: st)) : zJ p l e R s m args below meth c Q A G nL cells slots Cs lv pc st := by
  intro H locs ls hP hD hS hl
  exact lv_sipush E.1 E.2.1 hdg hv (k H locs ls hP hD hS hl)
theorem z_lconst (E : zE p s m args meth c A G ct nL cc own) {n : Fin 2} {v : Int64} (hdg : decode cc pc = .ok (.lconst n, 1)) (hv : Int64.ofNat (n : Nat) = v) (k : zJ p l e R s m args below meth c Q A G nL cells slots Cs lv (pc + 1) (.long v :: st)) : zJ p l e R s m args below meth c Q A G nL cells slots Cs lv pc st := by
  intro H locs ls hP hD hS hl
  exact lv_lconst E.1 E.2.1 hdg hv (k H locs ls hP hD hS hl)
theorem z_ldc2 (E : zE p s m args meth c A G ct nL cc own) {index : Nat} {v : Int64} (hw : Cond.constantLong own index v ∈ wsL_law) (hdg : decode cc pc = .ok (.ldc2_w index, 3)) (k : zJ p l e R s m args below meth c Q A G nL cells slots Cs lv (pc + 3) (.long v :: st)) : zJ p l e R s m args below meth c Q A G nL cells slots Cs lv pc st := by
  intro H locs ls hP hD hS hl
  exact lv_ldc2 E.1 E.2.1 E.2.2.2.1 (E.2.2.2.2.1 _ hw) hdg (k H locs ls hP hD hS hl)
theorem z_null (E : zE p s m args meth c A G ct nL cc own) (hdg : decode cc pc = .ok (.aconst_null, 1)) (k : zJ p l e R s m args below meth c Q A G nL cells slots Cs lv (pc + 1) (.null :: st)) : zJ p l e R s m args below meth c Q A G nL cells slots Cs lv pc st := by
  intro H locs ls hP hD hS hl
  exact lv_null E.1 E.2.1 hdg (k H locs ls hP hD hS hl)
theorem z_iload_n (E : zE p s m args meth c A G ct nL cc own) {j : Fin 4} {i k0 : Nat} {x : Int32} (hdg : decode cc pc = .ok (.iload_n j, 1)) (hi : (j : Nat) = i) (hk : lv[k0]? = some (i, .int x)) (k : zJ p l e R s m args below meth c Q A G nL cells slots Cs lv (pc + 1) (.int x :: st)) : zJ p l e R s m args below meth c Q A G nL cells slots Cs lv pc st := by
  intro H locs ls hP hD hS hl
  exact lv_iload_n E.1 E.2.1 hdg hi (lv_at hl k0 hk) (k H locs ls hP hD hS hl)
theorem z_iload (E : zE p s m args meth c A G ct nL cc own) {i k0 : Nat} {x : Int32} (hdg : decode cc pc = .ok (.iload i, 2)) (hk : lv[k0]? = some (i, .int x)) (k : zJ p l e R s m args below meth c Q A G nL cells slots Cs lv (pc + 2) (.int x :: st)) : zJ p l e R s m args below meth c Q A G nL cells slots Cs lv pc st := by
  intro H locs ls hP hD hS hl
  exact lv_iload E.1 E.2.1 hdg (lv_at hl k0 hk) (k H locs ls hP hD hS hl)
theorem z_lload_n (E : zE p s m args meth c A G ct nL cc own) {j : Fin 4} {i k0 : Nat} {x : Int64} (hdg : decode cc pc = .ok (.lload_n j, 1)) (hi : (j : Nat) = i) (hk : lv[k0]? = some (i, .long x)) (k : zJ p l e R s m args below meth c Q A G nL cells slots Cs lv (pc + 1) (.long x :: st)) : zJ p l e R s m args below meth c Q A G nL cells slots Cs lv pc st := by
  intro H locs ls hP hD hS hl
  exact lv_lload_n E.1 E.2.1 hdg hi (lv_at hl k0 hk) (k H locs ls hP hD hS hl)
theorem z_lload (E : zE p s m args meth c A G ct nL cc own) {i k0 : Nat} {x : Int64} (hdg : decode cc pc = .ok (.lload i, 2)) (hk : lv[k0]? = some (i, .long x)) (k : zJ p l e R s m args below meth c Q A G nL cells slots Cs lv (pc + 2) (.long x :: st)) : zJ p l e R s m args below meth c Q A G nL cells slots Cs lv pc st := by
  intro H locs ls hP hD hS hl
  exact lv_lload E.1 E.2.1 hdg (lv_at hl k0 hk) (k H locs ls hP hD hS hl)
theorem z_aload_n (E : zE p s m args meth c A G ct nL cc own) {j : Fin 4} {i k0 : Nat} {x : Nat} (hdg : decode cc pc = .ok (.aload_n j, 1)) (hi : (j : Nat) = i) (hk : lv[k0]? = some (i, .ref x)) (k : zJ p l e R s m args below meth c Q A G nL cells slots Cs lv (pc + 1) (.ref x :: st)) : zJ p l e R s m args below meth c Q A G nL cells slots Cs lv pc st := by
  intro H locs ls hP hD hS hl
  exact lv_aload_n E.1 E.2.1 hdg hi (lv_at hl k0 hk) (k H locs ls hP hD hS hl)
theorem z_aload (E : zE p s m args meth c A G ct nL cc own) {i k0 : Nat} {x : Nat} (hdg : decode cc pc = .ok (.aload i, 2)) (hk : lv[k0]? = some (i, .ref x)) (k : zJ p l e R s m args below meth c Q A G nL cells slots Cs lv (pc + 2) (.ref x :: st)) : zJ p l e R s m args below meth c Q A G nL cells slots Cs lv pc st := by
  intro H locs ls hP hD hS hl
  exact lv_aload E.1 E.2.1 hdg (lv_at hl k0 hk) (k H locs ls hP hD hS hl)
theorem z_qload_n (E : zE p s m args meth c A G ct nL cc own) {j : Fin 4} {i k0 : Nat} {x : Option Nat} (hdg : decode cc pc = .ok (.aload_n j, 1)) (hi : (j : Nat) = i) (hk : lv[k0]? = some (i, va_rf x)) (k : zJ p l e R s m args below meth c Q A G nL cells slots Cs lv (pc + 1) (va_rf x :: st)) : zJ p l e R s m args below meth c Q A G nL cells slots Cs lv pc st := by
  intro H locs ls hP hD hS hl
  cases x with
  | none => exact lv_aload_nN E.1 E.2.1 hdg hi (lv_at hl k0 hk) (k H locs ls hP hD hS hl)
  | some x => exact lv_aload_n E.1 E.2.1 hdg hi (lv_at hl k0 hk) (k H locs ls hP hD hS hl)
theorem z_qload (E : zE p s m args meth c A G ct nL cc own) {i k0 : Nat} {x : Option Nat} (hdg : decode cc pc = .ok (.aload i, 2)) (hk : lv[k0]? = some (i, va_rf x)) (k : zJ p l e R s m args below meth c Q A G nL cells slots Cs lv (pc + 2) (va_rf x :: st)) : zJ p l e R s m args below meth c Q A G nL cells slots Cs lv pc st := by
  intro H locs ls hP hD hS hl
  cases x with
  | none => exact lv_aloadN E.1 E.2.1 hdg (lv_at hl k0 hk) (k H locs ls hP hD hS hl)
  | some x => exact lv_aload E.1 E.2.1 hdg (lv_at hl k0 hk) (k H locs ls hP hD hS hl)
theorem z_istore_n (E : zE p s m args meth c A G ct nL cc own) {j : Fin 4} {i : Nat} {x : Int32} (hdg : decode cc pc = .ok (.istore_n j, 1)) (hi : (j : Nat) = i) (hn : i < nL) (hl9 : (i, Value.int x) :: lv.filter (fun q => !(q.1 == i) && !(q.1 + 1 == i && q.2.category == 2)) = lv') (k : zJ p l e R s m args below meth c Q A G nL cells slots Cs lv' (pc + 1) st) : zJ p l e R s m args below meth c Q A G nL cells slots Cs lv pc (.int x :: st) := by
  intro H locs ls hP hD hS hl
  exact lv_istore_n E.1 E.2.1 hdg hi hl hn hl9 (fun ls9 hl9 => k H locs ls9 hP hD hS hl9)
theorem z_istore (E : zE p s m args meth c A G ct nL cc own) {i : Nat} {x : Int32} (hdg : decode cc pc = .ok (.istore i, 2)) (hn : i < nL) (hl9 : (i, Value.int x) :: lv.filter (fun q => !(q.1 == i) && !(q.1 + 1 == i && q.2.category == 2)) = lv') (k : zJ p l e R s m args below meth c Q A G nL cells slots Cs lv' (pc + 2) st) : zJ p l e R s m args below meth c Q A G nL cells slots Cs lv pc (.int x :: st) := by
  intro H locs ls hP hD hS hl
  exact lv_istore E.1 E.2.1 hdg hl hn hl9 (fun ls9 hl9 => k H locs ls9 hP hD hS hl9)
theorem z_lstore_n (E : zE p s m args meth c A G ct nL cc own) {j : Fin 4} {i : Nat} {x : Int64} (hdg : decode cc pc = .ok (.lstore_n j, 1)) (hi : (j : Nat) = i) (hn : i + 1 < nL) (hl9 : (i, Value.long x) :: lv.filter (fun q => !(q.1 == i) && (!(q.1 == i + 1) && !(q.1 + 1 == i && q.2.category == 2))) = lv') (k : zJ p l e R s m args below meth c Q A G nL cells slots Cs lv' (pc + 1) st) : zJ p l e R s m args below meth c Q A G nL cells slots Cs lv pc (.long x :: st) := by
  intro H locs ls hP hD hS hl
  exact lv_lstore_n E.1 E.2.1 hdg hi hl hn hl9 (fun ls9 hl9 => k H locs ls9 hP hD hS hl9)
theorem z_lstore (E : zE p s m args meth c A G ct nL cc own) {i : Nat} {x : Int64} (hdg : decode cc pc = .ok (.lstore i, 2)) (hn : i + 1 < nL) (hl9 : (i, Value.long x) :: lv.filter (fun q => !(q.1 == i) && (!(q.1 == i + 1) && !(q.1 + 1 == i && q.2.category == 2))) = lv') (k : zJ p l e R s m args below meth c Q A G nL cells slots Cs lv' (pc + 2) st) : zJ p l e R s m args below meth c Q A G nL cells slots Cs lv pc (.long x :: st) := by
  intro H locs ls hP hD hS hl
  exact lv_lstore E.1 E.2.1 hdg hl hn hl9 (fun ls9 hl9 => k H locs ls9 hP hD hS hl9)
theorem z_astore_n (E : zE p s m args meth c A G ct nL cc own) {j : Fin 4} {i : Nat} {x : Nat} (hdg : decode cc pc = .ok (.astore_n j, 1)) (hi : (j : Nat) = i) (hn : i < nL) (hl9 : (i, Value.ref x) :: lv.filter (fun q => !(q.1 == i) && !(q.1 + 1 == i && q.2.category == 2)) = lv') (k : zJ p l e R s m args below meth c Q A G nL cells slots Cs lv' (pc + 1) st) : zJ p l e R s m args below meth c Q A G nL cells slots Cs lv pc (.ref x :: st) := by
  intro H locs ls hP hD hS hl
  exact lv_astore_n E.1 E.2.1 hdg hi hl hn hl9 (fun ls9 hl9 => k H locs ls9 hP hD hS hl9)
theorem z_astore (E : zE p s m args meth c A G ct nL cc own) {i : Nat} {x : Nat} (hdg : decode cc pc = .ok (.astore i, 2)) (hn : i < nL) (hl9 : (i, Value.ref x) :: lv.filter (fun q => !(q.1 == i) && !(q.1 + 1 == i && q.2.category == 2)) = lv') (k : zJ p l e R s m args below meth c Q A G nL cells slots Cs lv' (pc + 2) st) : zJ p l e R s m args below meth c Q A G nL cells slots Cs lv pc (.ref x :: st) := by
  intro H locs ls hP hD hS hl
  exact lv_astore E.1 E.2.1 hdg hl hn hl9 (fun ls9 hl9 => k H locs ls9 hP hD hS hl9)
theorem z_iinc (E : zE p s m args meth c A G ct nL cc own) {i k0 : Nat} {n : Int} {x v : Int32} (hdg : decode cc pc = .ok (.iinc i n, 3)) (hk : lv[k0]? = some (i, .int x)) (hv : v = x + Int32.ofInt n) (hn : i < nL) (hl9 : (i, Value.int v) :: lv.filter (fun q => !(q.1 == i) && !(q.1 + 1 == i && q.2.category == 2)) = lv') (k : zJ p l e R s m args below meth c Q A G nL cells slots Cs lv' (pc + 3) st) : zJ p l e R s m args below meth c Q A G nL cells slots Cs lv pc st := by
  intro H locs ls hP hD hS hl
  exact lv_iinc E.1 E.2.1 hdg hl hk hv.symm hn hl9 (fun ls9 hl9 => k H locs ls9 hP hD hS hl9)
theorem z_iadd (E : zE p s m args meth c A G ct nL cc own) {x y v : Int32} (hdg : decode cc pc = .ok (.iadd, 1)) (hv : v = x + y) (k : zJ p l e R s m args below meth c Q A G nL cells slots Cs lv (pc + 1) (.int v :: st)) : zJ p l e R s m args below meth c Q A G nL cells slots Cs lv pc (.int y :: .int x :: st) := by
  subst hv
  intro H locs ls hP hD hS hl
  exact lv_iadd E.1 E.2.1 hdg (k H locs ls hP hD hS hl)
theorem z_isub (E : zE p s m args meth c A G ct nL cc own) {x y v : Int32} (hdg : decode cc pc = .ok (.isub, 1)) (hv : v = x - y) (k : zJ p l e R s m args below meth c Q A G nL cells slots Cs lv (pc + 1) (.int v :: st)) : zJ p l e R s m args below meth c Q A G nL cells slots Cs lv pc (.int y :: .int x :: st) := by
  subst hv
  intro H locs ls hP hD hS hl
  exact lv_isub E.1 E.2.1 hdg (k H locs ls hP hD hS hl)
theorem z_imul (E : zE p s m args meth c A G ct nL cc own) {x y v : Int32} (hdg : decode cc pc = .ok (.imul, 1)) (hv : v = x * y) (k : zJ p l e R s m args below meth c Q A G nL cells slots Cs lv (pc + 1) (.int v :: st)) : zJ p l e R s m args below meth c Q A G nL cells slots Cs lv pc (.int y :: .int x :: st) := by
  subst hv
  intro H locs ls hP hD hS hl
  exact lv_imul E.1 E.2.1 hdg (k H locs ls hP hD hS hl)
theorem z_iand (E : zE p s m args meth c A G ct nL cc own) {x y v : Int32} (hdg : decode cc pc = .ok (.iand, 1)) (hv : v = x &&& y) (k : zJ p l e R s m args below meth c Q A G nL cells slots Cs lv (pc + 1) (.int v :: st)) : zJ p l e R s m args below meth c Q A G nL cells slots Cs lv pc (.int y :: .int x :: st) := by
  subst hv
  intro H locs ls hP hD hS hl
  exact lv_iand E.1 E.2.1 hdg (k H locs ls hP hD hS hl)
theorem z_ior (E : zE p s m args meth c A G ct nL cc own) {x y v : Int32} (hdg : decode cc pc = .ok (.ior, 1)) (hv : v = x ||| y) (k : zJ p l e R s m args below meth c Q A G nL cells slots Cs lv (pc + 1) (.int v :: st)) : zJ p l e R s m args below meth c Q A G nL cells slots Cs lv pc (.int y :: .int x :: st) := by
  subst hv
  intro H locs ls hP hD hS hl
  exact lv_ior E.1 E.2.1 hdg (k H locs ls hP hD hS hl)
theorem z_ixor (E : zE p s m args meth c A G ct nL cc own) {x y v : Int32} (hdg : decode cc pc = .ok (.ixor, 1)) (hv : v = x ^^^ y) (k : zJ p l e R s m args below meth c Q A G nL cells slots Cs lv (pc + 1) (.int v :: st)) : zJ p l e R s m args below meth c Q A G nL cells slots Cs lv pc (.int y :: .int x :: st) := by
  subst hv
  intro H locs ls hP hD hS hl
  exact lv_ixor E.1 E.2.1 hdg (k H locs ls hP hD hS hl)
theorem z_ishl (E : zE p s m args meth c A G ct nL cc own) {x y v : Int32} (hdg : decode cc pc = .ok (.ishl, 1)) (hv : v = x <<< (y &&& 31)) (k : zJ p l e R s m args below meth c Q A G nL cells slots Cs lv (pc + 1) (.int v :: st)) : zJ p l e R s m args below meth c Q A G nL cells slots Cs lv pc (.int y :: .int x :: st) := by
  subst hv
  intro H locs ls hP hD hS hl
  exact lv_ishl E.1 E.2.1 hdg (k H locs ls hP hD hS hl)
theorem z_ishr (E : zE p s m args meth c A G ct nL cc own) {x y v : Int32} (hdg : decode cc pc = .ok (.ishr, 1)) (hv : v = x >>> (y &&& 31)) (k : zJ p l e R s m args below meth c Q A G nL cells slots Cs lv (pc + 1) (.int v :: st)) : zJ p l e R s m args below meth c Q A G nL cells slots Cs lv pc (.int y :: .int x :: st) := by
  subst hv
  intro H locs ls hP hD hS hl
  exact lv_ishr E.1 E.2.1 hdg (k H locs ls hP hD hS hl)
theorem z_iushr (E : zE p s m args meth c A G ct nL cc own) {x y v : Int32} (hdg : decode cc pc = .ok (.iushr, 1)) (hv : v = (x.toUInt32 >>> (y.toUInt32 &&& Int32.toUInt32 31)).toInt32) (k : zJ p l e R s m args below meth c Q A G nL cells slots Cs lv (pc + 1) (.int v :: st)) : zJ p l e R s m args below meth c Q A G nL cells slots Cs lv pc (.int y :: .int x :: st) := by
  intro H locs ls hP hD hS hl
  exact lv_iushr E.1 E.2.1 hdg hv.symm (k H locs ls hP hD hS hl)
theorem z_idiv (E : zE p s m args meth c A G ct nL cc own) {x y v : Int32} (hdg : decode cc pc = .ok (.idiv, 1)) (hne : ¬ y = 0) (hv : v = x / y) (k : zJ p l e R s m args below meth c Q A G nL cells slots Cs lv (pc + 1) (.int v :: st)) : zJ p l e R s m args below meth c Q A G nL cells slots Cs lv pc (.int y :: .int x :: st) := by
  subst hv
  intro H locs ls hP hD hS hl
  exact lv_idiv E.1 E.2.1 hdg hne (k H locs ls hP hD hS hl)
theorem z_irem (E : zE p s m args meth c A G ct nL cc own) {x y v : Int32} (hdg : decode cc pc = .ok (.irem, 1)) (hne : ¬ y = 0) (hv : v = x - x / y * y) (k : zJ p l e R s m args below meth c Q A G nL cells slots Cs lv (pc + 1) (.int v :: st)) : zJ p l e R s m args below meth c Q A G nL cells slots Cs lv pc (.int y :: .int x :: st) := by
  subst hv
  intro H locs ls hP hD hS hl
  exact lv_irem E.1 E.2.1 hdg hne (k H locs ls hP hD hS hl)
theorem z_ineg (E : zE p s m args meth c A G ct nL cc own) {x v : Int32} (hdg : decode cc pc = .ok (.ineg, 1)) (hv : v = -x) (k : zJ p l e R s m args below meth c Q A G nL cells slots Cs lv (pc + 1) (.int v :: st)) : zJ p l e R s m args below meth c Q A G nL cells slots Cs lv pc (.int x :: st) := by
  subst hv
  intro H locs ls hP hD hS hl
  exact lv_ineg E.1 E.2.1 hdg (k H locs ls hP hD hS hl)
theorem z_ladd (E : zE p s m args meth c A G ct nL cc own) {x y v : Int64} (hdg : decode cc pc = .ok (.ladd, 1)) (hv : v = x + y) (k : zJ p l e R s m args below meth c Q A G nL cells slots Cs lv (pc + 1) (.long v :: st)) : zJ p l e R s m args below meth c Q A G nL cells slots Cs lv pc (.long y :: .long x :: st) := by
  subst hv
  intro H locs ls hP hD hS hl
  exact lv_ladd E.1 E.2.1 hdg (k H locs ls hP hD hS hl)
theorem z_lsub (E : zE p s m args meth c A G ct nL cc own) {x y v : Int64} (hdg : decode cc pc = .ok (.lsub, 1)) (hv : v = x - y) (k : zJ p l e R s m args below meth c Q A G nL cells slots Cs lv (pc + 1) (.long v :: st)) : zJ p l e R s m args below meth c Q A G nL cells slots Cs lv pc (.long y :: .long x :: st) := by
  subst hv
  intro H locs ls hP hD hS hl
  exact lv_lsub E.1 E.2.1 hdg (k H locs ls hP hD hS hl)
theorem z_lor (E : zE p s m args meth c A G ct nL cc own) {x y v : Int64} (hdg : decode cc pc = .ok (.lor, 1)) (hv : v = x ||| y) (k : zJ p l e R s m args below meth c Q A G nL cells slots Cs lv (pc + 1) (.long v :: st)) : zJ p l e R s m args below meth c Q A G nL cells slots Cs lv pc (.long y :: .long x :: st) := by
  subst hv
  intro H locs ls hP hD hS hl
  exact lv_lor E.1 E.2.1 hdg (k H locs ls hP hD hS hl)
theorem z_land (E : zE p s m args meth c A G ct nL cc own) {x y v : Int64} (hdg : decode cc pc = .ok (.land, 1)) (hv : v = x &&& y) (k : zJ p l e R s m args below meth c Q A G nL cells slots Cs lv (pc + 1) (.long v :: st)) : zJ p l e R s m args below meth c Q A G nL cells slots Cs lv pc (.long y :: .long x :: st) := by
  subst hv
  intro H locs ls hP hD hS hl
  exact lv_land E.1 E.2.1 hdg (k H locs ls hP hD hS hl)
theorem z_lshl (E : zE p s m args meth c A G ct nL cc own) {x v : Int64} {y : Int32} (hdg : decode cc pc = .ok (.lshl, 1)) (hv : v = x <<< (y.toInt64 &&& 63)) (k : zJ p l e R s m args below meth c Q A G nL cells slots Cs lv (pc + 1) (.long v :: st)) : zJ p l e R s m args below meth c Q A G nL cells slots Cs lv pc (.int y :: .long x :: st) := by
  intro H locs ls hP hD hS hl
  exact lv_lshl E.1 E.2.1 hdg hv.symm (k H locs ls hP hD hS hl)
theorem z_i2l (E : zE p s m args meth c A G ct nL cc own) {x : Int32} {v : Int64} (hdg : decode cc pc = .ok (.i2l, 1)) (hv : v = x.toInt64) (k : zJ p l e R s m args below meth c Q A G nL cells slots Cs lv (pc + 1) (.long v :: st)) : zJ p l e R s m args below meth c Q A G nL cells slots Cs lv pc (.int x :: st) := by
  intro H locs ls hP hD hS hl
  exact lv_i2l E.1 E.2.1 hdg hv.symm (k H locs ls hP hD hS hl)
theorem z_l2i (E : zE p s m args meth c A G ct nL cc own) {x : Int64} {v : Int32} (hdg : decode cc pc = .ok (.l2i, 1)) (hv : v = x.toInt32) (k : zJ p l e R s m args below meth c Q A G nL cells slots Cs lv (pc + 1) (.int v :: st)) : zJ p l e R s m args below meth c Q A G nL cells slots Cs lv pc (.long x :: st) := by
  intro H locs ls hP hD hS hl
  exact lv_l2i E.1 E.2.1 hdg hv.symm (k H locs ls hP hD hS hl)
theorem z_i2b (E : zE p s m args meth c A G ct nL cc own) {x v : Int32} (hdg : decode cc pc = .ok (.i2b, 1)) (hv : v = x.toInt8.toInt32) (k : zJ p l e R s m args below meth c Q A G nL cells slots Cs lv (pc + 1) (.int v :: st)) : zJ p l e R s m args below meth c Q A G nL cells slots Cs lv pc (.int x :: st) := by
  intro H locs ls hP hD hS hl
  exact lv_i2b E.1 E.2.1 hdg hv.symm (k H locs ls hP hD hS hl)
theorem z_i2s (E : zE p s m args meth c A G ct nL cc own) {x v : Int32} (hdg : decode cc pc = .ok (.i2s, 1)) (hv : v = x.toInt16.toInt32) (k : zJ p l e R s m args below meth c Q A G nL cells slots Cs lv (pc + 1) (.int v :: st)) : zJ p l e R s m args below meth c Q A G nL cells slots Cs lv pc (.int x :: st) := by
  intro H locs ls hP hD hS hl
  exact lv_i2s E.1 E.2.1 hdg hv.symm (k H locs ls hP hD hS hl)
theorem z_i2c (E : zE p s m args meth c A G ct nL cc own) {x v : Int32} (hdg : decode cc pc = .ok (.i2c, 1)) (hv : v = (x.toUInt32 % 65536).toInt32) (k : zJ p l e R s m args below meth c Q A G nL cells slots Cs lv (pc + 1) (.int v :: st)) : zJ p l e R s m args below meth c Q A G nL cells slots Cs lv pc (.int x :: st) := by
  intro H locs ls hP hD hS hl
  exact lv_i2c E.1 E.2.1 hdg hv.symm (k H locs ls hP hD hS hl)
theorem z_lcmp (E : zE p s m args meth c A G ct nL cc own) {x y : Int64} {v : Int32} (hdg : decode cc pc = .ok (.lcmp, 1)) (hv : v = lg_cmp x y) (k : zJ p l e R s m args below meth c Q A G nL cells slots Cs lv (pc + 1) (.int v :: st)) : zJ p l e R s m args below meth c Q A G nL cells slots Cs lv pc (.long y :: .long x :: st) := by
  subst hv
  intro H locs ls hP hD hS hl
  exact W.lcmp E.1 E.2.1 hdg (k H locs ls hP hD hS hl)
theorem z_dup (E : zE p s m args meth c A G ct nL cc own) {a : Value} (hdg : decode cc pc = .ok (.dup, 1)) (ha : a.category = 1) (k : zJ p l e R s m args below meth c Q A G nL cells slots Cs lv (pc + 1) (a :: a :: st)) : zJ p l e R s m args below meth c Q A G nL cells slots Cs lv pc (a :: st) := by
  intro H locs ls hP hD hS hl
  exact lv_dup E.1 E.2.1 hdg ha (k H locs ls hP hD hS hl)
theorem z_pop (E : zE p s m args meth c A G ct nL cc own) {a : Value} (hdg : decode cc pc = .ok (.pop, 1)) (ha : a.category = 1) (k : zJ p l e R s m args below meth c Q A G nL cells slots Cs lv (pc + 1) st) : zJ p l e R s m args below meth c Q A G nL cells slots Cs lv pc (a :: st) := by
  intro H locs ls hP hD hS hl
  exact lv_pop E.1 E.2.1 hdg ha (k H locs ls hP hD hS hl)
theorem z_dup_x1 (E : zE p s m args meth c A G ct nL cc own) {a b : Value} (hdg : decode cc pc = .ok (.dup_x1, 1)) (ha : a.category = 1) (hb : b.category = 1) (k : zJ p l e R s m args below meth c Q A G nL cells slots Cs lv (pc + 1) (a :: b :: a :: st)) : zJ p l e R s m args below meth c Q A G nL cells slots Cs lv pc (a :: b :: st) := by
  intro H locs ls hP hD hS hl
  exact lv_dup_x1 E.1 E.2.1 hdg ha hb (k H locs ls hP hD hS hl)
theorem z_dup_x2 (E : zE p s m args meth c A G ct nL cc own) {a b d : Value} (hdg : decode cc pc = .ok (.dup_x2, 1)) (ha : a.category = 1) (hb : b.category = 1) (hd : d.category = 1) (k : zJ p l e R s m args below meth c Q A G nL cells slots Cs lv (pc + 1) (a :: b :: d :: a :: st)) : zJ p l e R s m args below meth c Q A G nL cells slots Cs lv pc (a :: b :: d :: st) := by
  intro H locs ls hP hD hS hl
  exact lv_dup_x2 E.1 E.2.1 hdg ha hb hd (k H locs ls hP hD hS hl)
theorem z_dup2 (E : zE p s m args meth c A G ct nL cc own) {a b : Value} (hdg : decode cc pc = .ok (.dup2, 1)) (ha : a.category = 1) (hb : b.category = 1) (k : zJ p l e R s m args below meth c Q A G nL cells slots Cs lv (pc + 1) (a :: b :: a :: b :: st)) : zJ p l e R s m args below meth c Q A G nL cells slots Cs lv pc (a :: b :: st) := by
  intro H locs ls hP hD hS hl
  exact lv_dup2_11 E.1 E.2.1 hdg ha hb (k H locs ls hP hD hS hl)
theorem z_if_eq (E : zE p s m args meth c A G ct nL cc own) {x : Int32} {off : Int} {tgt : Nat} (hdg : decode cc pc = .ok (.ifCond .eq off, 3)) (ht : (pc : Int) + off = (tgt : Int)) (k1 : x = 0 → zJ p l e R s m args below meth c Q A G nL cells slots Cs lv tgt st) (k2 : ¬ x = 0 → zJ p l e R s m args below meth c Q A G nL cells slots Cs lv (pc + 3) st) : zJ p l e R s m args below meth c Q A G nL cells slots Cs lv pc (.int x :: st) := by
  intro H locs ls hP hD hS hl
  exact lv_if_eq E.1 E.2.1 hdg ht (fun q => k1 q H locs ls hP hD hS hl) (fun q => k2 q H locs ls hP hD hS hl)
theorem z_icmp_eq (E : zE p s m args meth c A G ct nL cc own) {x y : Int32} {off : Int} {tgt : Nat} (hdg : decode cc pc = .ok (.if_icmp .eq off, 3)) (ht : (pc : Int) + off = (tgt : Int)) (k1 : x = y → zJ p l e R s m args below meth c Q A G nL cells slots Cs lv tgt st) (k2 : ¬ x = y → zJ p l e R s m args below meth c Q A G nL cells slots Cs lv (pc + 3) st) : zJ p l e R s m args below meth c Q A G nL cells slots Cs lv pc (.int y :: .int x :: st) := by
  intro H locs ls hP hD hS hl
  exact lv_icmp_eq E.1 E.2.1 hdg ht (fun q => k1 q H locs ls hP hD hS hl) (fun q => k2 q H locs ls hP hD hS hl)
theorem z_if_ne (E : zE p s m args meth c A G ct nL cc own) {x : Int32} {off : Int} {tgt : Nat} (hdg : decode cc pc = .ok (.ifCond .ne off, 3)) (ht : (pc : Int) + off = (tgt : Int)) (k1 : ¬ x = 0 → zJ p l e R s m args below meth c Q A G nL cells slots Cs lv tgt st) (k2 : x = 0 → zJ p l e R s m args below meth c Q A G nL cells slots Cs lv (pc + 3) st) : zJ p l e R s m args below meth c Q A G nL cells slots Cs lv pc (.int x :: st) := by
  intro H locs ls hP hD hS hl
  exact lv_if_ne E.1 E.2.1 hdg ht (fun q => k1 q H locs ls hP hD hS hl) (fun q => k2 q H locs ls hP hD hS hl)
theorem z_icmp_ne (E : zE p s m args meth c A G ct nL cc own) {x y : Int32} {off : Int} {tgt : Nat} (hdg : decode cc pc = .ok (.if_icmp .ne off, 3)) (ht : (pc : Int) + off = (tgt : Int)) (k1 : ¬ x = y → zJ p l e R s m args below meth c Q A G nL cells slots Cs lv tgt st) (k2 : x = y → zJ p l e R s m args below meth c Q A G nL cells slots Cs lv (pc + 3) st) : zJ p l e R s m args below meth c Q A G nL cells slots Cs lv pc (.int y :: .int x :: st) := by
  intro H locs ls hP hD hS hl
  exact lv_icmp_ne E.1 E.2.1 hdg ht (fun q => k1 q H locs ls hP hD hS hl) (fun q => k2 q H locs ls hP hD hS hl)
theorem z_if_lt (E : zE p s m args meth c A G ct nL cc own) {x : Int32} {off : Int} {tgt : Nat} (hdg : decode cc pc = .ok (.ifCond .lt off, 3)) (ht : (pc : Int) + off = (tgt : Int)) (k1 : x < 0 → zJ p l e R s m args below meth c Q A G nL cells slots Cs lv tgt st) (k2 : ¬ x < 0 → zJ p l e R s m args below meth c Q A G nL cells slots Cs lv (pc + 3) st) : zJ p l e R s m args below meth c Q A G nL cells slots Cs lv pc (.int x :: st) := by
  intro H locs ls hP hD hS hl
  exact lv_if_lt E.1 E.2.1 hdg ht (fun q => k1 q H locs ls hP hD hS hl) (fun q => k2 q H locs ls hP hD hS hl)
theorem z_icmp_lt (E : zE p s m args meth c A G ct nL cc own) {x y : Int32} {off : Int} {tgt : Nat} (hdg : decode cc pc = .ok (.if_icmp .lt off, 3)) (ht : (pc : Int) + off = (tgt : Int)) (k1 : x < y → zJ p l e R s m args below meth c Q A G nL cells slots Cs lv tgt st) (k2 : ¬ x < y → zJ p l e R s m args below meth c Q A G nL cells slots Cs lv (pc + 3) st) : zJ p l e R s m args below meth c Q A G nL cells slots Cs lv pc (.int y :: .int x :: st) := by
  intro H locs ls hP hD hS hl
  exact lv_icmp_lt E.1 E.2.1 hdg ht (fun q => k1 q H locs ls hP hD hS hl) (fun q => k2 q H locs ls hP hD hS hl)
theorem z_if_ge (E : zE p s m args meth c A G ct nL cc own) {x : Int32} {off : Int} {tgt : Nat} (hdg : decode cc pc = .ok (.ifCond .ge off, 3)) (ht : (pc : Int) + off = (tgt : Int)) (k1 : 0 ≤ x → zJ p l e R s m args below meth c Q A G nL cells slots Cs lv tgt st) (k2 : ¬ 0 ≤ x → zJ p l e R s m args below meth c Q A G nL cells slots Cs lv (pc + 3) st) : zJ p l e R s m args below meth c Q A G nL cells slots Cs lv pc (.int x :: st) := by
  intro H locs ls hP hD hS hl
  exact lv_if_ge E.1 E.2.1 hdg ht (fun q => k1 q H locs ls hP hD hS hl) (fun q => k2 q H locs ls hP hD hS hl)
theorem z_icmp_ge (E : zE p s m args meth c A G ct nL cc own) {x y : Int32} {off : Int} {tgt : Nat} (hdg : decode cc pc = .ok (.if_icmp .ge off, 3)) (ht : (pc : Int) + off = (tgt : Int)) (k1 : y ≤ x → zJ p l e R s m args below meth c Q A G nL cells slots Cs lv tgt st) (k2 : ¬ y ≤ x → zJ p l e R s m args below meth c Q A G nL cells slots Cs lv (pc + 3) st) : zJ p l e R s m args below meth c Q A G nL cells slots Cs lv pc (.int y :: .int x :: st) := by
  intro H locs ls hP hD hS hl
  exact lv_icmp_ge E.1 E.2.1 hdg ht (fun q => k1 q H locs ls hP hD hS hl) (fun q => k2 q H locs ls hP hD hS hl)
theorem z_if_gt (E : zE p s m args meth c A G ct nL cc own) {x : Int32} {off : Int} {tgt : Nat} (hdg : decode cc pc = .ok (.ifCond .gt off, 3)) (ht : (pc : Int) + off = (tgt : Int)) (k1 : 0 < x → zJ p l e R s m args below meth c Q A G nL cells slots Cs lv tgt st) (k2 : ¬ 0 < x → zJ p l e R s m args below meth c Q A G nL cells slots Cs lv (pc + 3) st) : zJ p l e R s m args below meth c Q A G nL cells slots Cs lv pc (.int x :: st) := by
  intro H locs ls hP hD hS hl
  exact lv_if_gt E.1 E.2.1 hdg ht (fun q => k1 q H locs ls hP hD hS hl) (fun q => k2 q H locs ls hP hD hS hl)
theorem z_icmp_gt (E : zE p s m args meth c A G ct nL cc own) {x y : Int32} {off : Int} {tgt : Nat} (hdg : decode cc pc = .ok (.if_icmp .gt off, 3)) (ht : (pc : Int) + off = (tgt : Int)) (k1 : y < x → zJ p l e R s m args below meth c Q A G nL cells slots Cs lv tgt st) (k2 : ¬ y < x → zJ p l e R s m args below meth c Q A G nL cells slots Cs lv (pc + 3) st) : zJ p l e R s m args below meth c Q A G nL cells slots Cs lv pc (.int y :: .int x :: st) := by
  intro H locs ls hP hD hS hl
  exact lv_icmp_gt E.1 E.2.1 hdg ht (fun q => k1 q H locs ls hP hD hS hl) (fun q => k2 q H locs ls hP hD hS hl)
theorem z_if_le (E : zE p s m args meth c A G ct nL cc own) {x : Int32} {off : Int} {tgt : Nat} (hdg : decode cc pc = .ok (.ifCond .le off, 3)) (ht : (pc : Int) + off = (tgt : Int)) (k1 : x ≤ 0 → zJ p l e R s m args below meth c Q A G nL cells slots Cs lv tgt st) (k2 : ¬ x ≤ 0 → zJ p l e R s m args below meth c Q A G nL cells slots Cs lv (pc + 3) st) : zJ p l e R s m args below meth c Q A G nL cells slots Cs lv pc (.int x :: st) := by
  intro H locs ls hP hD hS hl
  exact lv_if_le E.1 E.2.1 hdg ht (fun q => k1 q H locs ls hP hD hS hl) (fun q => k2 q H locs ls hP hD hS hl)
theorem z_icmp_le (E : zE p s m args meth c A G ct nL cc own) {x y : Int32} {off : Int} {tgt : Nat} (hdg : decode cc pc = .ok (.if_icmp .le off, 3)) (ht : (pc : Int) + off = (tgt : Int)) (k1 : x ≤ y → zJ p l e R s m args below meth c Q A G nL cells slots Cs lv tgt st) (k2 : ¬ x ≤ y → zJ p l e R s m args below meth c Q A G nL cells slots Cs lv (pc + 3) st) : zJ p l e R s m args below meth c Q A G nL cells slots Cs lv pc (.int y :: .int x :: st) := by
  intro H locs ls hP hD hS hl
  exact lv_icmp_le E.1 E.2.1 hdg ht (fun q => k1 q H locs ls hP hD hS hl) (fun q => k2 q H locs ls hP hD hS hl)
theorem z_goto (E : zE p s m args meth c A G ct nL cc own) {off : Int} {tgt : Nat} (hdg : decode cc pc = .ok (.goto off, 3)) (ht : (pc : Int) + off = (tgt : Int)) (k : zJ p l e R s m args below meth c Q A G nL cells slots Cs lv tgt st) : zJ p l e R s m args below meth c Q A G nL cells slots Cs lv pc st := by
  intro H locs ls hP hD hS hl
  exact lv_goto E.1 E.2.1 hdg ht (k H locs ls hP hD hS hl)
theorem z_ifnull (E : zE p s m args meth c A G ct nL cc own) {x : Option Nat} {off : Int} {tgt : Nat} (hdg : decode cc pc = .ok (.ifnull off, 3)) (ht : (pc : Int) + off = (tgt : Int)) (k1 : x = none → zJ p l e R s m args below meth c Q A G nL cells slots Cs lv tgt st) (k2 : ∀ a : Nat, x = some a → zJ p l e R s m args below meth c Q A G nL cells slots Cs lv (pc + 3) st) : zJ p l e R s m args below meth c Q A G nL cells slots Cs lv pc (va_rf x :: st) := by
  intro H locs ls hP hD hS hl
  cases x with
  | none => exact lv_ifnullN E.1 E.2.1 hdg ht (k1 rfl H locs ls hP hD hS hl)
  | some a => exact lv_ifnull E.1 E.2.1 hdg (k2 a rfl H locs ls hP hD hS hl)
theorem z_ifnonnull (E : zE p s m args meth c A G ct nL cc own) {x : Option Nat} {off : Int} {tgt : Nat} (hdg : decode cc pc = .ok (.ifnonnull off, 3)) (ht : (pc : Int) + off = (tgt : Int)) (k1 : ∀ a : Nat, x = some a → zJ p l e R s m args below meth c Q A G nL cells slots Cs lv tgt st) (k2 : x = none → zJ p l e R s m args below meth c Q A G nL cells slots Cs lv (pc + 3) st) : zJ p l e R s m args below meth c Q A G nL cells slots Cs lv pc (va_rf x :: st) := by
  intro H locs ls hP hD hS hl
  cases x with
  | none => exact lv_ifnonnullN E.1 E.2.1 hdg (k2 rfl H locs ls hP hD hS hl)
  | some a => exact lv_ifnonnull E.1 E.2.1 hdg ht (k1 a rfl H locs ls hP hD hS hl)
theorem z_tswOut (E : zE p s m args meth c A G ct nL cc own) {dflt lo hi : Int} {offs : Array Int} {len : Nat} {x : Int32} {tgt : Nat} (hdg : decode cc pc = .ok (.tableswitch dflt lo hi offs, len)) (h : x.toInt < lo ∨ hi < x.toInt) (ht : (pc : Int) + dflt = (tgt : Int)) (k : zJ p l e R s m args below meth c Q A G nL cells slots Cs lv tgt st) : zJ p l e R s m args below meth c Q A G nL cells slots Cs lv pc (.int x :: st) := by
  intro H locs ls hP hD hS hl
  exact lv_tableOut E.1 E.2.1 hdg h ht (k H locs ls hP hD hS hl)
theorem z_tswIn (E : zE p s m args meth c A G ct nL cc own) {dflt lo hi off n : Int} {offs : Array Int} {len : Nat} {x v : Int32} {tgt : Nat} (hdg : decode cc pc = .ok (.tableswitch dflt lo hi offs, len)) (h : x = v) (hn : v.toInt = n) (h1 : ¬ n < lo) (h2 : ¬ hi < n) (ho : offs[(n - lo).toNat]? = some off) (ht : (pc : Int) + off = (tgt : Int)) (k : zJ p l e R s m args below meth c Q A G nL cells slots Cs lv tgt st) : zJ p l e R s m args below meth c Q A G nL cells slots Cs lv pc (.int x :: st) := by
  subst h
  subst hn
  intro H locs ls hP hD hS hl
  exact lv_tableIn E.1 E.2.1 hdg h1 h2 ho ht (k H locs ls hP hD hS hl)
theorem z_lsw (E : zE p s m args meth c A G ct nL cc own) {dflt off : Int} {ps : Array (Int × Int)} {len : Nat} {x : Int32} {tgt : Nat} (hdg : decode cc pc = .ok (.lookupswitch dflt ps, len)) (hp : (ps.toList.zip (ps.toList.drop 1)).all (fun (a, next) => a.1 < next.1) = true) (ho : Op.lookupswitch.offset ps.toList dflt x.toInt = off) (ht : (pc : Int) + off = (tgt : Int)) (k : zJ p l e R s m args below meth c Q A G nL cells slots Cs lv tgt st) : zJ p l e R s m args below meth c Q A G nL cells slots Cs lv pc (.int x :: st) := by
  intro H locs ls hP hD hS hl
  exact lv_lookup E.1 E.2.1 hdg hp ho ht (k H locs ls hP hD hS hl)
theorem z_sub (ks : List Nat) (h : lv_pick lv ks = lv') (k : zJ p l e R s m args below meth c Q A G nL cells slots Cs lv' pc st) : zJ p l e R s m args below meth c Q A G nL cells slots Cs lv pc st := fun H locs ls hP hD hS hl => k H locs ls hP hD hS (lv_sub hl ks h)
theorem z_widen {cells' slots' : Nat} (h1 : cells ≤ cells') (h2 : slots ≤ slots') (k : zJ p l e R s m args below meth c Q A G nL cells' slots' Cs lv pc st) : zJ p l e R s m args below meth c Q A G nL cells slots Cs lv pc st := fun H locs ls hP hD hS hl => W.widen h1 h2 (k H locs ls hP hD hS hl)
theorem z_get (E : zE p s m args meth c A G ct nL cc own) {ref C : String} {T : u_T} {N ci index i j a : Nat} {w : va_W} {fs : List Value} (hin : ∀ w ∈ u_ws C T N, w ∈ wsL_law) (hc : vwCl[ci]? = some (C, T, N)) (hi : Cs[i]? = some w) (hj : w[j]? = some (a, .inr (ci, fs))) (k0 : Nat) (hk : k0 < N) (hlink : Cond.fieldLink own index ref (T k0).2.1 (T k0).2.2.1 ∈ wsL_law) (hsame : ∀ x, s.fieldFound? (T k0).1 (T k0).2.1 (T k0).2.2.1 = some x → s.fieldFound? ref (T k0).2.1 (T k0).2.2.1 = some x) {v : Value} (hv : fs[k0]? = some v) (hdg : decode cc pc = .ok (.getfield index, 3)) (k : zJ p l e R s m args below meth c Q A G nL cells slots Cs lv (pc + 3) (v :: st)) : zJ p l e R s m args below meth c Q A G nL cells slots Cs lv pc (.ref a :: st) := by
  intro H locs ls hP hD hS hl
  obtain ⟨q0, h0, -⟩ := zfl_cell hi hj
  exact va_get E.1 E.2.1 E.2.2.2.2.1 hin E.2.2.2.1 E.2.2.2.2.2.1 hP q0 h0 hc k0 hk (E.2.2.2.2.1 _ hlink) hsame hv hdg (k H locs ls hP hD hS hl)
theorem z_put (E : zE p s m args meth c A G ct nL cc own) {ref C : String} {T : u_T} {N ci index i j a : Nat} {w w2 : va_W} {fs : List Value} (hin : ∀ w ∈ u_ws C T N, w ∈ wsL_law) (ty0 : Nat → FieldType) (hty : ∀ k, k < N → parseFieldDescriptor (T k).2.2.1 = some (ty0 k)) (hnm : ∀ a, a < N → ∀ b, b < N → a ≠ b → (T a).2.1 ≠ (T b).2.1) (hc : vwCl[ci]? = some (C, T, N)) (hi : Cs[i]? = some w) (hj : w[j]? = some (a, .inr (ci, fs))) (k0 : Nat) (hk : k0 < N) (hlink : Cond.fieldLink own index ref (T k0).2.1 (T k0).2.2.1 ∈ wsL_law) (hsame : ∀ x, s.fieldFound? (T k0).1 (T k0).2.1 (T k0).2.2.1 = some x → s.fieldFound? ref (T k0).2.1 (T k0).2.2.1 = some x) (hfin : (T k0).2.2.2 = false) {ty : FieldType} {v : Value} (hd : parseFieldDescriptor (T k0).2.2.1 = some ty) (hn : narrow ty v = v) (hfit : fits ty v = true) (hl0 : k0 < fs.length) (hw2 : w.set j (a, .inr (ci, fs.set k0 v)) = w2)
    (hdg : decode cc pc = .ok (.putfield index, 3)) (k : zJ p l e R s m args below meth c Q A G nL cells slots (Cs.set i w2) lv (pc + 3) st) : zJ p l e R s m args below meth c Q A G nL cells slots Cs lv pc (v :: .ref a :: st) := by
  subst hw2
  intro H locs ls hP hD hS hl
  obtain ⟨q0, h0, h1⟩ := zfl_cell hi hj
  refine va_put E.1 E.2.1 E.2.2.2.2.1 hin ty0 hty hnm E.2.2.2.1 E.2.2.2.2.2.1 hP hD hS q0 h0 hc k0 hk (E.2.2.2.2.1 _ hlink) hsame hfin hd hn hfit hl0 hdg (fun H1 locs1 hP1 hD1 hS1 => ?_)
  rw [h1] at hP1 hD1
  exact k H1 locs1 ls hP1 hD1 hS1 hl
theorem z_putF (E : zE p s m args meth c A G ct nL cc own) {ref C : String} {T : u_T} {N ci index i j a : Nat} {w w2 : va_W} {fs : List Value} (hin : ∀ w ∈ u_ws C T N, w ∈ wsL_law) (ty0 : Nat → FieldType) (hty : ∀ k, k < N → parseFieldDescriptor (T k).2.2.1 = some (ty0 k)) (hnm : ∀ a, a < N → ∀ b, b < N → a ≠ b → (T a).2.1 ≠ (T b).2.1) (hc : vwCl[ci]? = some (C, T, N)) (hi : Cs[i]? = some w) (hj : w[j]? = some (a, .inr (ci, fs))) (k0 : Nat) (hk : k0 < N) (hlink : Cond.fieldLink own index ref (T k0).2.1 (T k0).2.2.1 ∈ wsL_law) (hsame : ∀ x, s.fieldFound? (T k0).1 (T k0).2.1 (T k0).2.2.1 = some x → s.fieldFound? ref (T k0).2.1 (T k0).2.2.1 = some x) (hfin : (T k0).2.2.2 = true) (hin2 : meth.name = "<init>") (hdecl : (T k0).1 = own) {ty : FieldType} {v : Value} (hd : parseFieldDescriptor (T k0).2.2.1 = some ty) (hn : narrow ty v = v) (hfit : fits ty v = true) (hl0 : k0 < fs.length) (hw2 : w.set j (a, .inr (ci, fs.set k0 v)) = w2)
    (hdg : decode cc pc = .ok (.putfield index, 3)) (k : zJ p l e R s m args below meth c Q A G nL cells slots (Cs.set i w2) lv (pc + 3) st) : zJ p l e R s m args below meth c Q A G nL cells slots Cs lv pc (v :: .ref a :: st) := by
  subst hw2
  intro H locs ls hP hD hS hl
  obtain ⟨q0, h0, h1⟩ := zfl_cell hi hj
  refine va_putF E.1 E.2.1 E.2.2.2.2.1 hin ty0 hty hnm E.2.2.2.1 E.2.2.2.2.2.1 hP hD hS q0 h0 hc k0 hk (E.2.2.2.2.1 _ hlink) hsame hfin hin2 hdecl hd hn hfit hl0 hdg (fun H1 locs1 hP1 hD1 hS1 => ?_)
  rw [h1] at hP1 hD1
  exact k H1 locs1 ls hP1 hD1 hS1 hl
theorem z_iald (E : zE p s m args meth c A G ct nL cc own) {i j a n : Nat} {w : va_W} {f : Nat → Int32} (hi : Cs[i]? = some w) (hj : w[j]? = some (a, .inl (ct 0, n, .inl f))) {x : Int32} (hin : ¬ (x < 0 ∨ n ≤ x.toNatClampNeg)) (hdg : decode cc pc = .ok (.iaload, 1)) (k : zJ p l e R s m args below meth c Q A G nL cells slots Cs lv (pc + 1) (.int (f x.toNatClampNeg) :: st)) : zJ p l e R s m args below meth c Q A G nL cells slots Cs lv pc (.int x :: .ref a :: st) := by
  intro H locs ls hP hD hS hl
  obtain ⟨q0, h0, -⟩ := zfl_cell hi hj
  exact va_iald E.1 E.2.1 E.2.2.2.2.2.1 hP q0 0 h0 rfl hin hdg (k H locs ls hP hD hS hl)
theorem z_lald (E : zE p s m args meth c A G ct nL cc own) {i j a n : Nat} {w : va_W} {f : Nat → Int64} (hi : Cs[i]? = some w) (hj : w[j]? = some (a, .inl (ct 1, n, .inr (.inl f)))) {x : Int32} (hin : ¬ (x < 0 ∨ n ≤ x.toNatClampNeg)) (hdg : decode cc pc = .ok (.laload, 1)) (k : zJ p l e R s m args below meth c Q A G nL cells slots Cs lv (pc + 1) (.long (f x.toNatClampNeg) :: st)) : zJ p l e R s m args below meth c Q A G nL cells slots Cs lv pc (.int x :: .ref a :: st) := by
  intro H locs ls hP hD hS hl
  obtain ⟨q0, h0, -⟩ := zfl_cell hi hj
  exact va_lald E.1 E.2.1 E.2.2.2.2.2.1 hP q0 1 h0 rfl hin hdg (k H locs ls hP hD hS hl)
theorem z_zald (E : zE p s m args meth c A G ct nL cc own) {i j a n : Nat} {w : va_W} {f : Nat → Int32} (hi : Cs[i]? = some w) (hj : w[j]? = some (a, .inl (ct 2, n, .inl f))) {x : Int32} (hin : ¬ (x < 0 ∨ n ≤ x.toNatClampNeg)) (hdg : decode cc pc = .ok (.baload, 1)) (k : zJ p l e R s m args below meth c Q A G nL cells slots Cs lv (pc + 1) (.int (f x.toNatClampNeg) :: st)) : zJ p l e R s m args below meth c Q A G nL cells slots Cs lv pc (.int x :: .ref a :: st) := by
  intro H locs ls hP hD hS hl
  obtain ⟨q0, h0, -⟩ := zfl_cell hi hj
  exact va_zald E.1 E.2.1 E.2.2.2.2.2.1 hP q0 2 h0 rfl hin hdg (k H locs ls hP hD hS hl)
theorem z_qald (E : zE p s m args meth c A G ct nL cc own) {i j a n : Nat} {w : va_W} {f : Nat → Option Nat} (hi : Cs[i]? = some w) (hj : w[j]? = some (a, .inl (ct 3, n, .inr (.inr (.inr (.inr f)))))) {x : Int32} (hin : ¬ (x < 0 ∨ n ≤ x.toNatClampNeg)) (hdg : decode cc pc = .ok (.aaload, 1)) (k : zJ p l e R s m args below meth c Q A G nL cells slots Cs lv (pc + 1) (va_rf (f x.toNatClampNeg) :: st)) : zJ p l e R s m args below meth c Q A G nL cells slots Cs lv pc (.int x :: .ref a :: st) := by
  intro H locs ls hP hD hS hl
  obtain ⟨q0, h0, -⟩ := zfl_cell hi hj
  exact va_aldq E.1 E.2.1 E.2.2.2.2.2.1 hP q0 3 h0 rfl hin hdg (k H locs ls hP hD hS hl)
theorem z_iast (E : zE p s m args meth c A G ct nL cc own) {i j a n : Nat} {w w2 : va_W} {f : Nat → Int32} (hi : Cs[i]? = some w) (hj : w[j]? = some (a, .inl (ct 0, n, .inl f))) {x : Int32} {y : Int32} (hin : ¬ (x < 0 ∨ n ≤ x.toNatClampNeg)) (hw2 : w.set j (a, .inl (ct 0, n, .inl (upd f x.toNatClampNeg y))) = w2) (hdg : decode cc pc = .ok (.iastore, 1)) (k : zJ p l e R s m args below meth c Q A G nL cells slots (Cs.set i w2) lv (pc + 1) st) : zJ p l e R s m args below meth c Q A G nL cells slots Cs lv pc (.int y :: .int x :: .ref a :: st) := by
  subst hw2
  intro H locs ls hP hD hS hl
  obtain ⟨q0, h0, h1⟩ := zfl_cell hi hj
  refine va_iast E.1 E.2.1 E.2.2.2.2.2.1 hP hD hS q0 0 h0 rfl hin hdg (fun H1 locs1 hP1 hD1 hS1 => ?_)
  rw [h1] at hP1 hD1
  exact k H1 locs1 ls hP1 hD1 hS1 hl
theorem z_last (E : zE p s m args meth c A G ct nL cc own) {i j a n : Nat} {w w2 : va_W} {f : Nat → Int64} (hi : Cs[i]? = some w) (hj : w[j]? = some (a, .inl (ct 1, n, .inr (.inl f)))) {x : Int32} {y : Int64} (hin : ¬ (x < 0 ∨ n ≤ x.toNatClampNeg)) (hw2 : w.set j (a, .inl (ct 1, n, .inr (.inl (vp_updL f x.toNatClampNeg y)))) = w2) (hdg : decode cc pc = .ok (.lastore, 1)) (k : zJ p l e R s m args below meth c Q A G nL cells slots (Cs.set i w2) lv (pc + 1) st) : zJ p l e R s m args below meth c Q A G nL cells slots Cs lv pc (.long y :: .int x :: .ref a :: st) := by
  subst hw2
  intro H locs ls hP hD hS hl
  obtain ⟨q0, h0, h1⟩ := zfl_cell hi hj
  refine va_last E.1 E.2.1 E.2.2.2.2.2.1 hP hD hS q0 1 h0 rfl hin hdg (fun H1 locs1 hP1 hD1 hS1 => ?_)
  rw [h1] at hP1 hD1
  exact k H1 locs1 ls hP1 hD1 hS1 hl
theorem z_zast (E : zE p s m args meth c A G ct nL cc own) {i j a n : Nat} {w w2 : va_W} {f : Nat → Int32} (hi : Cs[i]? = some w) (hj : w[j]? = some (a, .inl (ct 2, n, .inl f))) {x y : Int32} (hin : ¬ (x < 0 ∨ n ≤ x.toNatClampNeg)) (hy : y = 0 ∨ y = 1) (hw2 : w.set j (a, .inl (ct 2, n, .inl (upd f x.toNatClampNeg y))) = w2) (hdg : decode cc pc = .ok (.bastore, 1)) (k : zJ p l e R s m args below meth c Q A G nL cells slots (Cs.set i w2) lv (pc + 1) st) : zJ p l e R s m args below meth c Q A G nL cells slots Cs lv pc (.int y :: .int x :: .ref a :: st) := by
  subst hw2
  intro H locs ls hP hD hS hl
  obtain ⟨q0, h0, h1⟩ := zfl_cell hi hj
  have hy2 : vp_nar .boolean y = y := by rcases hy with h | h <;> subst h <;> decide
  refine va_zast E.1 E.2.1 E.2.2.2.2.2.1 hP hD hS q0 2 h0 rfl hin hdg (fun H1 locs1 hP1 hD1 hS1 => ?_)
  rw [hy2, h1] at hP1 hD1
  exact k H1 locs1 ls hP1 hD1 hS1 hl
theorem z_alen (E : zE p s m args meth c A G ct nL cc own) {i j a : Nat} {w : va_W} {cA : ClassId} {x : vp_A} (hi : Cs[i]? = some w) (hj : w[j]? = some (a, .inl (cA, x))) {t0 : Nat} {ty : FieldType} (ht : (zty ct)[t0]? = some (cA, ty)) {v : Int32} (hv : Int32.ofNat x.1 = v) (hdg : decode cc pc = .ok (.arraylength, 1)) (k : zJ p l e R s m args below meth c Q A G nL cells slots Cs lv (pc + 1) (.int v :: st)) : zJ p l e R s m args below meth c Q A G nL cells slots Cs lv pc (.ref a :: st) := by
  intro H locs ls hP hD hS hl
  obtain ⟨q0, h0, -⟩ := zfl_cell hi hj
  exact va_alen E.1 E.2.1 E.2.2.2.2.2.1 hP q0 t0 h0 ht hv hdg (k H locs ls hP hD hS hl)
end ZJ
/-! contracts -/
def zPre (G : va_G) (ct : Nat → ClassId) (Cs : List va_W) (sz : Nat) (U : State) : Prop := U.heap.size = sz ∧ va_P G vwCl (zfl Cs) U.heap ∧ va_K G vwCl (zty ct) U ∧ va_D (fun _ => True) (zfl Cs)
def zPost (G : va_G) (ct : Nat → ClassId) (v : Option Value) (C1 : List va_W) (A : Nat → Prop) (o : Outcome) (t : State) : Prop := o = .returned v ∧ va_P G vwCl (zfl C1) t.heap ∧ va_K G vwCl (zty ct) t ∧ va_D A (zfl C1)
def zQc (G : va_G) (ct : Nat → ClassId) (v : Option Value) (C1 : List va_W) (A : Nat → Prop) : Array Value → State → Outcome → State → Prop := fun _ st o t => zPost G ct v C1 A o t ∧ va_F A st t
def zC (l : Launch) (y : MethodName) (cc : ByteArray) (maxL : Nat) (ret : Option FieldType) (rm : Room) (G : va_G) (ct : Nat → ClassId) (as : List Value) (Cs C1 : List va_W) (v : Option Value) (mc ms : Nat) : Prop := ∀ sz : Nat, Met l y (Cond.code y cc maxL ret :: wsL_law) rm (va_Pc as (zPre G ct Cs sz)) (zQc G ct v C1 (va_A (zfl Cs) sz)) mc ms (va_A (zfl Cs) sz)
def zQ (G : va_G) (ct : Nat → ClassId) (v : Option Value) (C1 : List va_W) (A : Nat → Prop) (below : List Frame) (args : Array Value) (s : State) (mc ms : Nat) : State → Prop := MQ below (zQc G ct v C1 A) args s mc ms A
theorem z_enter {l : Launch} {y : MethodName} {cc : ByteArray} {maxL : Nat} {ret : Option FieldType} {rm : Room} {G : va_G} {ct : Nat → ClassId} {as : List Value} {Cs C1 : List va_W} {v : Option Value} {mc ms : Nat} {own : String} {lv : List (Nat × Value)} (hy : plainName y.cls = true) (ho : y.cls = own) (hn : (lg_sl as).length ≤ maxL) (hlv : lv_args 0 as = lv)
    (h : ∀ (p : Program) (e : Env) (s : State) (m : MethodId) (args : Array Value) (below : List Frame) (meth : Method) (c : Code) (A : Nat → Prop), zE p s m args meth c A G ct maxL cc own → meth.sig.returnType = ret → meth.name = y.name → zJ p l e rm s m args below meth c (zQ G ct v C1 A below args s mc ms) A G maxL 0 0 Cs lv 0 []) : zC l y cc maxL ret rm G ct as Cs C1 v mc ms := by
  subst ho
  intro sz
  refine Met.ofW (cc := cc) (maxL := maxL) (ret := ret) hy rfl ?_
  intro p e s m args below meth c s₁ B hml hv
  obtain ⟨rfl, hsz, hP, hK, hD0⟩ := hv
  have hts := atoms_spec (ws := Cond.code y cc maxL ret :: wsL_law) B.pre
  have hown : s.vm.findClass y.cls = some m.cls := findClass_of_methodNamed B.named
  subst hsz
  have hA : ∀ q : Nat, s.heap.size ≤ q → va_A (zfl Cs) s.heap.size q := fun q h => Or.inr h
  have hl := lv_entry as (n := maxL) hn
  rw [lg_entry_eq]
  rw [hlv] at hl
  exact h p e s m as.toArray below meth c _ ⟨B.exec, B.bytes, hml, hown, fun w hw => hts w (List.mem_cons_of_mem _ hw), hK, hA, B.notSynchronized⟩ B.returns (name_of_methodNamed B.named B.method).1 s.heap [] _ hP hD0.self va_S.rf hl
section ZR
variable {p : Program} {l : Launch} {e : Env} {R : Room} {s : State} {m : MethodId} {args : Array Value} {below : List Frame} {meth : Method} {c : Code} {Q : State → Prop} {A : Nat → Prop} {G : va_G} {ct : Nat → ClassId} {nL cells slots : Nat} {cc : ByteArray} {own : String} {Cs : List va_W} {lv lv' : List (Nat × Value)} {pc : Nat} {st : List Value}
theorem z_iret (E : zE p s m args meth c A G ct nL cc own) {v : Int32} (hr : meth.sig.returnType = some .int) (hdg : decode cc pc = .ok (.ireturn, 1)) : zJ p l e R s m args below meth c (zQ G ct (some (.int v)) Cs A below args s cells slots) A G nL cells slots Cs lv pc [.int v] := by
  intro H locs ls hP hD hS hl
  exact W.iret (v := v) E.1 E.2.1 hr (fun t ht hW => ⟨⟨rfl, by rw [ht]; exact hP, va_K.moved hW.alike E.2.2.2.2.2.1, hD⟩, hS.F ht⟩) hS.2.2 hdg E.2.2.2.2.2.2.2
theorem z_zret (E : zE p s m args meth c A G ct nL cc own) {v : Int32} (hr : meth.sig.returnType = some .boolean) (hv : v = 0 ∨ v = 1) (hdg : decode cc pc = .ok (.ireturn, 1)) : zJ p l e R s m args below meth c (zQ G ct (some (.int v)) Cs A below args s cells slots) A G nL cells slots Cs lv pc [.int v] := by
  intro H locs ls hP hD hS hl
  exact W.zret (v := v) E.1 E.2.1 hr (by rcases hv with h | h <;> subst h <;> decide) (fun t ht hW => ⟨⟨rfl, by rw [ht]; exact hP, va_K.moved hW.alike E.2.2.2.2.2.1, hD⟩, hS.F ht⟩) hS.2.2 hdg E.2.2.2.2.2.2.2
theorem z_lret (E : zE p s m args meth c A G ct nL cc own) {v : Int64} (hr : meth.sig.returnType = some .long) (hdg : decode cc pc = .ok (.lreturn, 1)) : zJ p l e R s m args below meth c (zQ G ct (some (.long v)) Cs A below args s cells slots) A G nL cells slots Cs lv pc [.long v] := by
  intro H locs ls hP hD hS hl
  exact W.lret (v := v) E.1 E.2.1 hr (fun t ht hW => ⟨⟨rfl, by rw [ht]; exact hP, va_K.moved hW.alike E.2.2.2.2.2.1, hD⟩, hS.F ht⟩) hS.2.2 hdg E.2.2.2.2.2.2.2
theorem z_vret (E : zE p s m args meth c A G ct nL cc own) (hr : meth.sig.returnType = none) (hdg : decode cc pc = .ok (.return_, 1)) : zJ p l e R s m args below meth c (zQ G ct none Cs A below args s cells slots) A G nL cells slots Cs lv pc [] := by
  intro H locs ls hP hD hS hl
  exact W.vret E.1 E.2.1 hr (fun t ht hW => ⟨⟨rfl, by rw [ht]; exact hP, va_K.moved hW.alike E.2.2.2.2.2.1, hD⟩, hS.F ht⟩) hS.2.2 hdg E.2.2.2.2.2.2.2
end ZR
