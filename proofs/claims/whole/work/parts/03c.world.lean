/-! the class: its worlds -/
abbrev zHS : Type := (Nat → Int32) × (Nat → Nat → Int32) × (Nat → Option Nat) × Option Nat
def hSI (S : zHS) (k : Nat) (v : Int32) : zHS := (va_up S.1 k v, S.2)
def hSA (S : zHS) (k : Nat) (f : Nat → Int32) : zHS := (S.1, va_up S.2.1 k f, S.2.2)
def hSP (S : zHS) (f : Nat → Option Nat) : zHS := (S.1, S.2.1, f, S.2.2.2)
def hSH (S : zHS) (x : Option Nat) : zHS := (S.1, S.2.1, S.2.2.1, x)
abbrev zTS : Type := (Nat → Int32) × (Nat → Int32)
def tSI (S : zTS) (k : Nat) (v : Int32) : zTS := (va_up S.1 k v, S.2)
def tSA (S : zTS) (f : Nat → Int32) : zTS := (S.1, f)
abbrev zRS : Type := (Nat → Int32) × (Nat → Nat → Int32)
def rSI (S : zRS) (k : Nat) (v : Int32) : zRS := (va_up S.1 k v, S.2)
def rSA (S : zRS) (k : Nat) (f : Nat → Int32) : zRS := (S.1, va_up S.2 k f)
abbrev zQS : Type := (Nat → Nat) × (Nat → Nat → Int32)
def qSA (S : zQS) (k : Nat) (f : Nat → Int32) : zQS := (S.1, va_up S.2 k f)
abbrev zPS : Type := Int32 × Int32 × Int32
def pcls (k : Int32) : Nat := if k = 1 then 6 else if k = 2 then 7 else if k = 3 then 8 else if k = 4 then 3 else if k = 5 then 0 else if k = 6 then 9 else 4
theorem pcls_cases (k : Int32) : pcls k = 6 ∨ pcls k = 7 ∨ pcls k = 8 ∨ pcls k = 3 ∨ pcls k = 0 ∨ pcls k = 9 ∨ pcls k = 4 := by
  unfold pcls
  repeat' split
  all_goals simp
def wH (a : Nat → Nat) (ct : Nat → ClassId) (S : zHS) : va_W := [(a 200, .inr (1, [.ref (a 0), .ref (a 1), .ref (a 2), .ref (a 3), .ref (a 4), .ref (a 5), .ref (a 6), .int (S.1 7), .int (S.1 8), .int (S.1 9), .int (S.1 10), .int (S.1 11), .int (S.1 12), .int (S.1 13), .int (S.1 14), .int (S.1 15), .int (S.1 16), va_rf S.2.2.2, .int (S.1 18), .int (S.1 19)])), (a 0, .inl (ct 0, 7, .inl (S.2.1 0))), (a 1, .inl (ct 0, 7, .inl (S.2.1 1))), (a 2, .inl (ct 0, 7, .inl (S.2.1 2))), (a 3, .inl (ct 3, 4, .inr (.inr (.inr (.inr S.2.2.1))))), (a 4, .inl (ct 0, 16, .inl (S.2.1 4))), (a 5, .inl (ct 2, 8, .inl (S.2.1 5))), (a 6, .inl (ct 0, 12, .inl (S.2.1 6)))]
section ZH
variable {p : Program} {l : Launch} {e : Env} {R : Room} {s : State} {m : MethodId} {args : Array Value} {below : List Frame} {meth : Method} {c : Code} {Q : State → Prop} {A : Nat → Prop} {G : va_G} {ct : Nat → ClassId} {nL cells slots : Nat} {cc : ByteArray} {own : String} {Cs : List va_W} {lv : List (Nat × Value)} {pc index i : Nat} {st : List Value}
variable {a : Nat → Nat} {S S1 : zHS}
theorem gH_0 (E : zE p s m args meth c A G ct nL cc own) (hi : Cs[i]? = some (wH a ct S)) (hlink : Cond.fieldLink own index "MoreStory$Home" "minutes" "[I" ∈ wsL_law) (hdg : decode cc pc = .ok (.getfield index, 3)) (k : zJ p l e R s m args below meth c Q A G nL cells slots Cs lv (pc + 3) (.ref (a 0) :: st)) : zJ p l e R s m args below meth c Q A G nL cells slots Cs lv pc (.ref (a 200) :: st) :=
  z_get E inlX1 rfl hi (j := 0) rfl 0 (by decide) hlink (fun _ h => h) rfl hdg k
theorem lH_0 (E : zE p s m args meth c A G ct nL cc own) {x : Int32} (hi : Cs[i]? = some (wH a ct S)) (hin : ¬ (x < 0 ∨ 7 ≤ x.toNatClampNeg)) (hdg : decode cc pc = .ok (.iaload, 1)) (k : zJ p l e R s m args below meth c Q A G nL cells slots Cs lv (pc + 1) (.int (S.2.1 0 x.toNatClampNeg) :: st)) : zJ p l e R s m args below meth c Q A G nL cells slots Cs lv pc (.int x :: .ref (a 0) :: st) :=
  z_iald E hi (j := 1) rfl hin hdg k
theorem sH_0 (E : zE p s m args meth c A G ct nL cc own) {x y : Int32} (hi : Cs[i]? = some (wH a ct S)) (hin : ¬ (x < 0 ∨ 7 ≤ x.toNatClampNeg)) (e1 : S1 = hSA S 0 (upd (S.2.1 0) x.toNatClampNeg y)) (hdg : decode cc pc = .ok (.iastore, 1)) (k : zJ p l e R s m args below meth c Q A G nL cells slots (Cs.set i (wH a ct S1)) lv (pc + 1) st) : zJ p l e R s m args below meth c Q A G nL cells slots Cs lv pc (.int y :: .int x :: .ref (a 0) :: st) := by
  subst e1
  exact z_iast E hi (j := 1) rfl hin rfl hdg k
theorem nH_0 (E : zE p s m args meth c A G ct nL cc own) (hi : Cs[i]? = some (wH a ct S)) (hdg : decode cc pc = .ok (.arraylength, 1)) (k : zJ p l e R s m args below meth c Q A G nL cells slots Cs lv (pc + 1) (.int (Int32.ofNat (7)) :: st)) : zJ p l e R s m args below meth c Q A G nL cells slots Cs lv pc (.ref (a 0) :: st) :=
  z_alen E hi (j := 1) rfl (t0 := 0) rfl rfl hdg k
theorem gH_1 (E : zE p s m args meth c A G ct nL cc own) (hi : Cs[i]? = some (wH a ct S)) (hlink : Cond.fieldLink own index "MoreStory$Home" "sweet" "[I" ∈ wsL_law) (hdg : decode cc pc = .ok (.getfield index, 3)) (k : zJ p l e R s m args below meth c Q A G nL cells slots Cs lv (pc + 3) (.ref (a 1) :: st)) : zJ p l e R s m args below meth c Q A G nL cells slots Cs lv pc (.ref (a 200) :: st) :=
  z_get E inlX1 rfl hi (j := 0) rfl 1 (by decide) hlink (fun _ h => h) rfl hdg k
theorem lH_1 (E : zE p s m args meth c A G ct nL cc own) {x : Int32} (hi : Cs[i]? = some (wH a ct S)) (hin : ¬ (x < 0 ∨ 7 ≤ x.toNatClampNeg)) (hdg : decode cc pc = .ok (.iaload, 1)) (k : zJ p l e R s m args below meth c Q A G nL cells slots Cs lv (pc + 1) (.int (S.2.1 1 x.toNatClampNeg) :: st)) : zJ p l e R s m args below meth c Q A G nL cells slots Cs lv pc (.int x :: .ref (a 1) :: st) :=
  z_iald E hi (j := 2) rfl hin hdg k
theorem sH_1 (E : zE p s m args meth c A G ct nL cc own) {x y : Int32} (hi : Cs[i]? = some (wH a ct S)) (hin : ¬ (x < 0 ∨ 7 ≤ x.toNatClampNeg)) (e1 : S1 = hSA S 1 (upd (S.2.1 1) x.toNatClampNeg y)) (hdg : decode cc pc = .ok (.iastore, 1)) (k : zJ p l e R s m args below meth c Q A G nL cells slots (Cs.set i (wH a ct S1)) lv (pc + 1) st) : zJ p l e R s m args below meth c Q A G nL cells slots Cs lv pc (.int y :: .int x :: .ref (a 1) :: st) := by
  subst e1
  exact z_iast E hi (j := 2) rfl hin rfl hdg k
theorem nH_1 (E : zE p s m args meth c A G ct nL cc own) (hi : Cs[i]? = some (wH a ct S)) (hdg : decode cc pc = .ok (.arraylength, 1)) (k : zJ p l e R s m args below meth c Q A G nL cells slots Cs lv (pc + 1) (.int (Int32.ofNat (7)) :: st)) : zJ p l e R s m args below meth c Q A G nL cells slots Cs lv pc (.ref (a 1) :: st) :=
  z_alen E hi (j := 2) rfl (t0 := 0) rfl rfl hdg k
theorem gH_2 (E : zE p s m args meth c A G ct nL cc own) (hi : Cs[i]? = some (wH a ct S)) (hlink : Cond.fieldLink own index "MoreStory$Home" "habit" "[I" ∈ wsL_law) (hdg : decode cc pc = .ok (.getfield index, 3)) (k : zJ p l e R s m args below meth c Q A G nL cells slots Cs lv (pc + 3) (.ref (a 2) :: st)) : zJ p l e R s m args below meth c Q A G nL cells slots Cs lv pc (.ref (a 200) :: st) :=
  z_get E inlX1 rfl hi (j := 0) rfl 2 (by decide) hlink (fun _ h => h) rfl hdg k
theorem lH_2 (E : zE p s m args meth c A G ct nL cc own) {x : Int32} (hi : Cs[i]? = some (wH a ct S)) (hin : ¬ (x < 0 ∨ 7 ≤ x.toNatClampNeg)) (hdg : decode cc pc = .ok (.iaload, 1)) (k : zJ p l e R s m args below meth c Q A G nL cells slots Cs lv (pc + 1) (.int (S.2.1 2 x.toNatClampNeg) :: st)) : zJ p l e R s m args below meth c Q A G nL cells slots Cs lv pc (.int x :: .ref (a 2) :: st) :=
  z_iald E hi (j := 3) rfl hin hdg k
theorem sH_2 (E : zE p s m args meth c A G ct nL cc own) {x y : Int32} (hi : Cs[i]? = some (wH a ct S)) (hin : ¬ (x < 0 ∨ 7 ≤ x.toNatClampNeg)) (e1 : S1 = hSA S 2 (upd (S.2.1 2) x.toNatClampNeg y)) (hdg : decode cc pc = .ok (.iastore, 1)) (k : zJ p l e R s m args below meth c Q A G nL cells slots (Cs.set i (wH a ct S1)) lv (pc + 1) st) : zJ p l e R s m args below meth c Q A G nL cells slots Cs lv pc (.int y :: .int x :: .ref (a 2) :: st) := by
  subst e1
  exact z_iast E hi (j := 3) rfl hin rfl hdg k
theorem nH_2 (E : zE p s m args meth c A G ct nL cc own) (hi : Cs[i]? = some (wH a ct S)) (hdg : decode cc pc = .ok (.arraylength, 1)) (k : zJ p l e R s m args below meth c Q A G nL cells slots Cs lv (pc + 1) (.int (Int32.ofNat (7)) :: st)) : zJ p l e R s m args below meth c Q A G nL cells slots Cs lv pc (.ref (a 2) :: st) :=
  z_alen E hi (j := 3) rfl (t0 := 0) rfl rfl hdg k
theorem gH_3 (E : zE p s m args meth c A G ct nL cc own) (hi : Cs[i]? = some (wH a ct S)) (hlink : Cond.fieldLink own index "MoreStory$Home" "persons" "[LMoreStory$Parent;" ∈ wsL_law) (hdg : decode cc pc = .ok (.getfield index, 3)) (k : zJ p l e R s m args below meth c Q A G nL cells slots Cs lv (pc + 3) (.ref (a 3) :: st)) : zJ p l e R s m args below meth c Q A G nL cells slots Cs lv pc (.ref (a 200) :: st) :=
  z_get E inlX1 rfl hi (j := 0) rfl 3 (by decide) hlink (fun _ h => h) rfl hdg k
theorem gH_4 (E : zE p s m args meth c A G ct nL cc own) (hi : Cs[i]? = some (wH a ct S)) (hlink : Cond.fieldLink own index "MoreStory$Home" "rows" "[I" ∈ wsL_law) (hdg : decode cc pc = .ok (.getfield index, 3)) (k : zJ p l e R s m args below meth c Q A G nL cells slots Cs lv (pc + 3) (.ref (a 4) :: st)) : zJ p l e R s m args below meth c Q A G nL cells slots Cs lv pc (.ref (a 200) :: st) :=
  z_get E inlX1 rfl hi (j := 0) rfl 4 (by decide) hlink (fun _ h => h) rfl hdg k
theorem lH_4 (E : zE p s m args meth c A G ct nL cc own) {x : Int32} (hi : Cs[i]? = some (wH a ct S)) (hin : ¬ (x < 0 ∨ 16 ≤ x.toNatClampNeg)) (hdg : decode cc pc = .ok (.iaload, 1)) (k : zJ p l e R s m args below meth c Q A G nL cells slots Cs lv (pc + 1) (.int (S.2.1 4 x.toNatClampNeg) :: st)) : zJ p l e R s m args below meth c Q A G nL cells slots Cs lv pc (.int x :: .ref (a 4) :: st) :=
  z_iald E hi (j := 5) rfl hin hdg k
theorem sH_4 (E : zE p s m args meth c A G ct nL cc own) {x y : Int32} (hi : Cs[i]? = some (wH a ct S)) (hin : ¬ (x < 0 ∨ 16 ≤ x.toNatClampNeg)) (e1 : S1 = hSA S 4 (upd (S.2.1 4) x.toNatClampNeg y)) (hdg : decode cc pc = .ok (.iastore, 1)) (k : zJ p l e R s m args below meth c Q A G nL cells slots (Cs.set i (wH a ct S1)) lv (pc + 1) st) : zJ p l e R s m args below meth c Q A G nL cells slots Cs lv pc (.int y :: .int x :: .ref (a 4) :: st) := by
  subst e1
  exact z_iast E hi (j := 5) rfl hin rfl hdg k
theorem nH_4 (E : zE p s m args meth c A G ct nL cc own) (hi : Cs[i]? = some (wH a ct S)) (hdg : decode cc pc = .ok (.arraylength, 1)) (k : zJ p l e R s m args below meth c Q A G nL cells slots Cs lv (pc + 1) (.int (Int32.ofNat (16)) :: st)) : zJ p l e R s m args below meth c Q A G nL cells slots Cs lv pc (.ref (a 4) :: st) :=
  z_alen E hi (j := 5) rfl (t0 := 0) rfl rfl hdg k
theorem gH_5 (E : zE p s m args meth c A G ct nL cc own) (hi : Cs[i]? = some (wH a ct S)) (hlink : Cond.fieldLink own index "MoreStory$Home" "said" "[Z" ∈ wsL_law) (hdg : decode cc pc = .ok (.getfield index, 3)) (k : zJ p l e R s m args below meth c Q A G nL cells slots Cs lv (pc + 3) (.ref (a 5) :: st)) : zJ p l e R s m args below meth c Q A G nL cells slots Cs lv pc (.ref (a 200) :: st) :=
  z_get E inlX1 rfl hi (j := 0) rfl 5 (by decide) hlink (fun _ h => h) rfl hdg k
theorem lH_5 (E : zE p s m args meth c A G ct nL cc own) {x : Int32} (hi : Cs[i]? = some (wH a ct S)) (hin : ¬ (x < 0 ∨ 8 ≤ x.toNatClampNeg)) (hdg : decode cc pc = .ok (.baload, 1)) (k : zJ p l e R s m args below meth c Q A G nL cells slots Cs lv (pc + 1) (.int (S.2.1 5 x.toNatClampNeg) :: st)) : zJ p l e R s m args below meth c Q A G nL cells slots Cs lv pc (.int x :: .ref (a 5) :: st) :=
  z_zald E hi (j := 6) rfl hin hdg k
theorem sH_5 (E : zE p s m args meth c A G ct nL cc own) {x y : Int32} (hi : Cs[i]? = some (wH a ct S)) (hin : ¬ (x < 0 ∨ 8 ≤ x.toNatClampNeg)) (hy : y = 0 ∨ y = 1) (e1 : S1 = hSA S 5 (upd (S.2.1 5) x.toNatClampNeg y)) (hdg : decode cc pc = .ok (.bastore, 1)) (k : zJ p l e R s m args below meth c Q A G nL cells slots (Cs.set i (wH a ct S1)) lv (pc + 1) st) : zJ p l e R s m args below meth c Q A G nL cells slots Cs lv pc (.int y :: .int x :: .ref (a 5) :: st) := by
  subst e1
  exact z_zast E hi (j := 6) rfl hin hy rfl hdg k
theorem gH_6 (E : zE p s m args meth c A G ct nL cc own) (hi : Cs[i]? = some (wH a ct S)) (hlink : Cond.fieldLink own index "MoreStory$Home" "book" "[I" ∈ wsL_law) (hdg : decode cc pc = .ok (.getfield index, 3)) (k : zJ p l e R s m args below meth c Q A G nL cells slots Cs lv (pc + 3) (.ref (a 6) :: st)) : zJ p l e R s m args below meth c Q A G nL cells slots Cs lv pc (.ref (a 200) :: st) :=
  z_get E inlX1 rfl hi (j := 0) rfl 6 (by decide) hlink (fun _ h => h) rfl hdg k
theorem lH_6 (E : zE p s m args meth c A G ct nL cc own) {x : Int32} (hi : Cs[i]? = some (wH a ct S)) (hin : ¬ (x < 0 ∨ 12 ≤ x.toNatClampNeg)) (hdg : decode cc pc = .ok (.iaload, 1)) (k : zJ p l e R s m args below meth c Q A G nL cells slots Cs lv (pc + 1) (.int (S.2.1 6 x.toNatClampNeg) :: st)) : zJ p l e R s m args below meth c Q A G nL cells slots Cs lv pc (.int x :: .ref (a 6) :: st) :=
  z_iald E hi (j := 7) rfl hin hdg k
theorem sH_6 (E : zE p s m args meth c A G ct nL cc own) {x y : Int32} (hi : Cs[i]? = some (wH a ct S)) (hin : ¬ (x < 0 ∨ 12 ≤ x.toNatClampNeg)) (e1 : S1 = hSA S 6 (upd (S.2.1 6) x.toNatClampNeg y)) (hdg : decode cc pc = .ok (.iastore, 1)) (k : zJ p l e R s m args below meth c Q A G nL cells slots (Cs.set i (wH a ct S1)) lv (pc + 1) st) : zJ p l e R s m args below meth c Q A G nL cells slots Cs lv pc (.int y :: .int x :: .ref (a 6) :: st) := by
  subst e1
  exact z_iast E hi (j := 7) rfl hin rfl hdg k
theorem nH_6 (E : zE p s m args meth c A G ct nL cc own) (hi : Cs[i]? = some (wH a ct S)) (hdg : decode cc pc = .ok (.arraylength, 1)) (k : zJ p l e R s m args below meth c Q A G nL cells slots Cs lv (pc + 1) (.int (Int32.ofNat (12)) :: st)) : zJ p l e R s m args below meth c Q A G nL cells slots Cs lv pc (.ref (a 6) :: st) :=
  z_alen E hi (j := 7) rfl (t0 := 0) rfl rfl hdg k
theorem gH_7 (E : zE p s m args meth c A G ct nL cc own) (hi : Cs[i]? = some (wH a ct S)) (hlink : Cond.fieldLink own index "MoreStory$Home" "things" "I" ∈ wsL_law) (hdg : decode cc pc = .ok (.getfield index, 3)) (k : zJ p l e R s m args below meth c Q A G nL cells slots Cs lv (pc + 3) (.int (S.1 7) :: st)) : zJ p l e R s m args below meth c Q A G nL cells slots Cs lv pc (.ref (a 200) :: st) :=
  z_get E inlX1 rfl hi (j := 0) rfl 7 (by decide) hlink (fun _ h => h) rfl hdg k
theorem pH_7 (E : zE p s m args meth c A G ct nL cc own) {v : Int32} (hi : Cs[i]? = some (wH a ct S)) (e1 : S1 = hSI S 7 v) (hlink : Cond.fieldLink own index "MoreStory$Home" "things" "I" ∈ wsL_law) (hdg : decode cc pc = .ok (.putfield index, 3)) (k : zJ p l e R s m args below meth c Q A G nL cells slots (Cs.set i (wH a ct S1)) lv (pc + 3) st) : zJ p l e R s m args below meth c Q A G nL cells slots Cs lv pc (.int v :: .ref (a 200) :: st) := by
  subst e1
  exact z_put E inlX1 tyX1 tyX1_ok nmX1 rfl hi (j := 0) rfl 7 (by decide) hlink (fun _ h => h) rfl (ty := .int) (by decide +kernel) rfl rfl (Nat.le_of_ble_eq_true rfl) rfl hdg k
theorem gH_8 (E : zE p s m args meth c A G ct nL cc own) (hi : Cs[i]? = some (wH a ct S)) (hlink : Cond.fieldLink own index "MoreStory$Home" "parents" "I" ∈ wsL_law) (hdg : decode cc pc = .ok (.getfield index, 3)) (k : zJ p l e R s m args below meth c Q A G nL cells slots Cs lv (pc + 3) (.int (S.1 8) :: st)) : zJ p l e R s m args below meth c Q A G nL cells slots Cs lv pc (.ref (a 200) :: st) :=
  z_get E inlX1 rfl hi (j := 0) rfl 8 (by decide) hlink (fun _ h => h) rfl hdg k
theorem pH_8 (E : zE p s m args meth c A G ct nL cc own) {v : Int32} (hi : Cs[i]? = some (wH a ct S)) (e1 : S1 = hSI S 8 v) (hlink : Cond.fieldLink own index "MoreStory$Home" "parents" "I" ∈ wsL_law) (hdg : decode cc pc = .ok (.putfield index, 3)) (k : zJ p l e R s m args below meth c Q A G nL cells slots (Cs.set i (wH a ct S1)) lv (pc + 3) st) : zJ p l e R s m args below meth c Q A G nL cells slots Cs lv pc (.int v :: .ref (a 200) :: st) := by
  subst e1
  exact z_put E inlX1 tyX1 tyX1_ok nmX1 rfl hi (j := 0) rfl 8 (by decide) hlink (fun _ h => h) rfl (ty := .int) (by decide +kernel) rfl rfl (Nat.le_of_ble_eq_true rfl) rfl hdg k
theorem gH_9 (E : zE p s m args meth c A G ct nL cc own) (hi : Cs[i]? = some (wH a ct S)) (hlink : Cond.fieldLink own index "MoreStory$Home" "heard" "I" ∈ wsL_law) (hdg : decode cc pc = .ok (.getfield index, 3)) (k : zJ p l e R s m args below meth c Q A G nL cells slots Cs lv (pc + 3) (.int (S.1 9) :: st)) : zJ p l e R s m args below meth c Q A G nL cells slots Cs lv pc (.ref (a 200) :: st) :=
  z_get E inlX1 rfl hi (j := 0) rfl 9 (by decide) hlink (fun _ h => h) rfl hdg k
theorem pH_9 (E : zE p s m args meth c A G ct nL cc own) {v : Int32} (hi : Cs[i]? = some (wH a ct S)) (e1 : S1 = hSI S 9 v) (hlink : Cond.fieldLink own index "MoreStory$Home" "heard" "I" ∈ wsL_law) (hdg : decode cc pc = .ok (.putfield index, 3)) (k : zJ p l e R s m args below meth c Q A G nL cells slots (Cs.set i (wH a ct S1)) lv (pc + 3) st) : zJ p l e R s m args below meth c Q A G nL cells slots Cs lv pc (.int v :: .ref (a 200) :: st) := by
  subst e1
  exact z_put E inlX1 tyX1 tyX1_ok nmX1 rfl hi (j := 0) rfl 9 (by decide) hlink (fun _ h => h) rfl (ty := .int) (by decide +kernel) rfl rfl (Nat.le_of_ble_eq_true rfl) rfl hdg k
theorem gH_10 (E : zE p s m args meth c A G ct nL cc own) (hi : Cs[i]? = some (wH a ct S)) (hlink : Cond.fieldLink own index "MoreStory$Home" "booked" "I" ∈ wsL_law) (hdg : decode cc pc = .ok (.getfield index, 3)) (k : zJ p l e R s m args below meth c Q A G nL cells slots Cs lv (pc + 3) (.int (S.1 10) :: st)) : zJ p l e R s m args below meth c Q A G nL cells slots Cs lv pc (.ref (a 200) :: st) :=
  z_get E inlX1 rfl hi (j := 0) rfl 10 (by decide) hlink (fun _ h => h) rfl hdg k
theorem pH_10 (E : zE p s m args meth c A G ct nL cc own) {v : Int32} (hi : Cs[i]? = some (wH a ct S)) (e1 : S1 = hSI S 10 v) (hlink : Cond.fieldLink own index "MoreStory$Home" "booked" "I" ∈ wsL_law) (hdg : decode cc pc = .ok (.putfield index, 3)) (k : zJ p l e R s m args below meth c Q A G nL cells slots (Cs.set i (wH a ct S1)) lv (pc + 3) st) : zJ p l e R s m args below meth c Q A G nL cells slots Cs lv pc (.int v :: .ref (a 200) :: st) := by
  subst e1
  exact z_put E inlX1 tyX1 tyX1_ok nmX1 rfl hi (j := 0) rfl 10 (by decide) hlink (fun _ h => h) rfl (ty := .int) (by decide +kernel) rfl rfl (Nat.le_of_ble_eq_true rfl) rfl hdg k
theorem gH_11 (E : zE p s m args meth c A G ct nL cc own) (hi : Cs[i]? = some (wH a ct S)) (hlink : Cond.fieldLink own index "MoreStory$Home" "clock" "I" ∈ wsL_law) (hdg : decode cc pc = .ok (.getfield index, 3)) (k : zJ p l e R s m args below meth c Q A G nL cells slots Cs lv (pc + 3) (.int (S.1 11) :: st)) : zJ p l e R s m args below meth c Q A G nL cells slots Cs lv pc (.ref (a 200) :: st) :=
  z_get E inlX1 rfl hi (j := 0) rfl 11 (by decide) hlink (fun _ h => h) rfl hdg k
theorem pH_11 (E : zE p s m args meth c A G ct nL cc own) {v : Int32} (hi : Cs[i]? = some (wH a ct S)) (e1 : S1 = hSI S 11 v) (hlink : Cond.fieldLink own index "MoreStory$Home" "clock" "I" ∈ wsL_law) (hdg : decode cc pc = .ok (.putfield index, 3)) (k : zJ p l e R s m args below meth c Q A G nL cells slots (Cs.set i (wH a ct S1)) lv (pc + 3) st) : zJ p l e R s m args below meth c Q A G nL cells slots Cs lv pc (.int v :: .ref (a 200) :: st) := by
  subst e1
  exact z_put E inlX1 tyX1 tyX1_ok nmX1 rfl hi (j := 0) rfl 11 (by decide) hlink (fun _ h => h) rfl (ty := .int) (by decide +kernel) rfl rfl (Nat.le_of_ble_eq_true rfl) rfl hdg k
theorem gH_12 (E : zE p s m args meth c A G ct nL cc own) (hi : Cs[i]? = some (wH a ct S)) (hlink : Cond.fieldLink own index "MoreStory$Home" "sleepy" "I" ∈ wsL_law) (hdg : decode cc pc = .ok (.getfield index, 3)) (k : zJ p l e R s m args below meth c Q A G nL cells slots Cs lv (pc + 3) (.int (S.1 12) :: st)) : zJ p l e R s m args below meth c Q A G nL cells slots Cs lv pc (.ref (a 200) :: st) :=
  z_get E inlX1 rfl hi (j := 0) rfl 12 (by decide) hlink (fun _ h => h) rfl hdg k
theorem pH_12 (E : zE p s m args meth c A G ct nL cc own) {v : Int32} (hi : Cs[i]? = some (wH a ct S)) (e1 : S1 = hSI S 12 v) (hlink : Cond.fieldLink own index "MoreStory$Home" "sleepy" "I" ∈ wsL_law) (hdg : decode cc pc = .ok (.putfield index, 3)) (k : zJ p l e R s m args below meth c Q A G nL cells slots (Cs.set i (wH a ct S1)) lv (pc + 3) st) : zJ p l e R s m args below meth c Q A G nL cells slots Cs lv pc (.int v :: .ref (a 200) :: st) := by
  subst e1
  exact z_put E inlX1 tyX1 tyX1_ok nmX1 rfl hi (j := 0) rfl 12 (by decide) hlink (fun _ h => h) rfl (ty := .int) (by decide +kernel) rfl rfl (Nat.le_of_ble_eq_true rfl) rfl hdg k
theorem gH_13 (E : zE p s m args meth c A G ct nL cc own) (hi : Cs[i]? = some (wH a ct S)) (hlink : Cond.fieldLink own index "MoreStory$Home" "nos" "I" ∈ wsL_law) (hdg : decode cc pc = .ok (.getfield index, 3)) (k : zJ p l e R s m args below meth c Q A G nL cells slots Cs lv (pc + 3) (.int (S.1 13) :: st)) : zJ p l e R s m args below meth c Q A G nL cells slots Cs lv pc (.ref (a 200) :: st) :=
  z_get E inlX1 rfl hi (j := 0) rfl 13 (by decide) hlink (fun _ h => h) rfl hdg k
theorem pH_13 (E : zE p s m args meth c A G ct nL cc own) {v : Int32} (hi : Cs[i]? = some (wH a ct S)) (e1 : S1 = hSI S 13 v) (hlink : Cond.fieldLink own index "MoreStory$Home" "nos" "I" ∈ wsL_law) (hdg : decode cc pc = .ok (.putfield index, 3)) (k : zJ p l e R s m args below meth c Q A G nL cells slots (Cs.set i (wH a ct S1)) lv (pc + 3) st) : zJ p l e R s m args below meth c Q A G nL cells slots Cs lv pc (.int v :: .ref (a 200) :: st) := by
  subst e1
  exact z_put E inlX1 tyX1 tyX1_ok nmX1 rfl hi (j := 0) rfl 13 (by decide) hlink (fun _ h => h) rfl (ty := .int) (by decide +kernel) rfl rfl (Nat.le_of_ble_eq_true rfl) rfl hdg k
theorem gH_14 (E : zE p s m args meth c A G ct nL cc own) (hi : Cs[i]? = some (wH a ct S)) (hlink : Cond.fieldLink own index "MoreStory$Home" "given" "I" ∈ wsL_law) (hdg : decode cc pc = .ok (.getfield index, 3)) (k : zJ p l e R s m args below meth c Q A G nL cells slots Cs lv (pc + 3) (.int (S.1 14) :: st)) : zJ p l e R s m args below meth c Q A G nL cells slots Cs lv pc (.ref (a 200) :: st) :=
  z_get E inlX1 rfl hi (j := 0) rfl 14 (by decide) hlink (fun _ h => h) rfl hdg k
theorem pH_14 (E : zE p s m args meth c A G ct nL cc own) {v : Int32} (hi : Cs[i]? = some (wH a ct S)) (e1 : S1 = hSI S 14 v) (hlink : Cond.fieldLink own index "MoreStory$Home" "given" "I" ∈ wsL_law) (hdg : decode cc pc = .ok (.putfield index, 3)) (k : zJ p l e R s m args below meth c Q A G nL cells slots (Cs.set i (wH a ct S1)) lv (pc + 3) st) : zJ p l e R s m args below meth c Q A G nL cells slots Cs lv pc (.int v :: .ref (a 200) :: st) := by
  subst e1
  exact z_put E inlX1 tyX1 tyX1_ok nmX1 rfl hi (j := 0) rfl 14 (by decide) hlink (fun _ h => h) rfl (ty := .int) (by decide +kernel) rfl rfl (Nat.le_of_ble_eq_true rfl) rfl hdg k
theorem gH_15 (E : zE p s m args meth c A G ct nL cc own) (hi : Cs[i]? = some (wH a ct S)) (hlink : Cond.fieldLink own index "MoreStory$Home" "one" "I" ∈ wsL_law) (hdg : decode cc pc = .ok (.getfield index, 3)) (k : zJ p l e R s m args below meth c Q A G nL cells slots Cs lv (pc + 3) (.int (S.1 15) :: st)) : zJ p l e R s m args below meth c Q A G nL cells slots Cs lv pc (.ref (a 200) :: st) :=
  z_get E inlX1 rfl hi (j := 0) rfl 15 (by decide) hlink (fun _ h => h) rfl hdg k
theorem pH_15 (E : zE p s m args meth c A G ct nL cc own) {v : Int32} (hi : Cs[i]? = some (wH a ct S)) (e1 : S1 = hSI S 15 v) (hlink : Cond.fieldLink own index "MoreStory$Home" "one" "I" ∈ wsL_law) (hdg : decode cc pc = .ok (.putfield index, 3)) (k : zJ p l e R s m args below meth c Q A G nL cells slots (Cs.set i (wH a ct S1)) lv (pc + 3) st) : zJ p l e R s m args below meth c Q A G nL cells slots Cs lv pc (.int v :: .ref (a 200) :: st) := by
  subst e1
  exact z_put E inlX1 tyX1 tyX1_ok nmX1 rfl hi (j := 0) rfl 15 (by decide) hlink (fun _ h => h) rfl (ty := .int) (by decide +kernel) rfl rfl (Nat.le_of_ble_eq_true rfl) rfl hdg k
theorem gH_16 (E : zE p s m args meth c A G ct nL cc own) (hi : Cs[i]? = some (wH a ct S)) (hlink : Cond.fieldLink own index "MoreStory$Home" "evening" "I" ∈ wsL_law) (hdg : decode cc pc = .ok (.getfield index, 3)) (k : zJ p l e R s m args below meth c Q A G nL cells slots Cs lv (pc + 3) (.int (S.1 16) :: st)) : zJ p l e R s m args below meth c Q A G nL cells slots Cs lv pc (.ref (a 200) :: st) :=
  z_get E inlX1 rfl hi (j := 0) rfl 16 (by decide) hlink (fun _ h => h) rfl hdg k
theorem pH_16 (E : zE p s m args meth c A G ct nL cc own) {v : Int32} (hi : Cs[i]? = some (wH a ct S)) (e1 : S1 = hSI S 16 v) (hlink : Cond.fieldLink own index "MoreStory$Home" "evening" "I" ∈ wsL_law) (hdg : decode cc pc = .ok (.putfield index, 3)) (k : zJ p l e R s m args below meth c Q A G nL cells slots (Cs.set i (wH a ct S1)) lv (pc + 3) st) : zJ p l e R s m args below meth c Q A G nL cells slots Cs lv pc (.int v :: .ref (a 200) :: st) := by
  subst e1
  exact z_put E inlX1 tyX1 tyX1_ok nmX1 rfl hi (j := 0) rfl 16 (by decide) hlink (fun _ h => h) rfl (ty := .int) (by decide +kernel) rfl rfl (Nat.le_of_ble_eq_true rfl) rfl hdg k
theorem gH_17 (E : zE p s m args meth c A G ct nL cc own) (hi : Cs[i]? = some (wH a ct S)) (hlink : Cond.fieldLink own index "MoreStory$Home" "house" "LMoreStory$House;" ∈ wsL_law) (hdg : decode cc pc = .ok (.getfield index, 3)) (k : zJ p l e R s m args below meth c Q A G nL cells slots Cs lv (pc + 3) (va_rf S.2.2.2 :: st)) : zJ p l e R s m args below meth c Q A G nL cells slots Cs lv pc (.ref (a 200) :: st) :=
  z_get E inlX1 rfl hi (j := 0) rfl 17 (by decide) hlink (fun _ h => h) rfl hdg k
theorem gH_18 (E : zE p s m args meth c A G ct nL cc own) (hi : Cs[i]? = some (wH a ct S)) (hlink : Cond.fieldLink own index "MoreStory$Home" "late" "I" ∈ wsL_law) (hdg : decode cc pc = .ok (.getfield index, 3)) (k : zJ p l e R s m args below meth c Q A G nL cells slots Cs lv (pc + 3) (.int (S.1 18) :: st)) : zJ p l e R s m args below meth c Q A G nL cells slots Cs lv pc (.ref (a 200) :: st) :=
  z_get E inlX1 rfl hi (j := 0) rfl 18 (by decide) hlink (fun _ h => h) rfl hdg k
theorem pH_18 (E : zE p s m args meth c A G ct nL cc own) {v : Int32} (hi : Cs[i]? = some (wH a ct S)) (e1 : S1 = hSI S 18 v) (hlink : Cond.fieldLink own index "MoreStory$Home" "late" "I" ∈ wsL_law) (hdg : decode cc pc = .ok (.putfield index, 3)) (k : zJ p l e R s m args below meth c Q A G nL cells slots (Cs.set i (wH a ct S1)) lv (pc + 3) st) : zJ p l e R s m args below meth c Q A G nL cells slots Cs lv pc (.int v :: .ref (a 200) :: st) := by
  subst e1
  exact z_put E inlX1 tyX1 tyX1_ok nmX1 rfl hi (j := 0) rfl 18 (by decide) hlink (fun _ h => h) rfl (ty := .int) (by decide +kernel) rfl rfl (Nat.le_of_ble_eq_true rfl) rfl hdg k
theorem gH_19 (E : zE p s m args meth c A G ct nL cc own) (hi : Cs[i]? = some (wH a ct S)) (hlink : Cond.fieldLink own index "MoreStory$Home" "deep" "I" ∈ wsL_law) (hdg : decode cc pc = .ok (.getfield index, 3)) (k : zJ p l e R s m args below meth c Q A G nL cells slots Cs lv (pc + 3) (.int (S.1 19) :: st)) : zJ p l e R s m args below meth c Q A G nL cells slots Cs lv pc (.ref (a 200) :: st) :=
  z_get E inlX1 rfl hi (j := 0) rfl 19 (by decide) hlink (fun _ h => h) rfl hdg k
theorem pH_19 (E : zE p s m args meth c A G ct nL cc own) {v : Int32} (hi : Cs[i]? = some (wH a ct S)) (e1 : S1 = hSI S 19 v) (hlink : Cond.fieldLink own index "MoreStory$Home" "deep" "I" ∈ wsL_law) (hdg : decode cc pc = .ok (.putfield index, 3)) (k : zJ p l e R s m args below meth c Q A G nL cells slots (Cs.set i (wH a ct S1)) lv (pc + 3) st) : zJ p l e R s m args below meth c Q A G nL cells slots Cs lv pc (.int v :: .ref (a 200) :: st) := by
  subst e1
  exact z_put E inlX1 tyX1 tyX1_ok nmX1 rfl hi (j := 0) rfl 19 (by decide) hlink (fun _ h => h) rfl (ty := .int) (by decide +kernel) rfl rfl (Nat.le_of_ble_eq_true rfl) rfl hdg k
theorem pH_17 (E : zE p s m args meth c A G ct nL cc own) {x : Option Nat} (hi : Cs[i]? = some (wH a ct S)) (e1 : S1 = hSH S x) (hlink : Cond.fieldLink own index "MoreStory$Home" "house" "LMoreStory$House;" ∈ wsL_law) (hdg : decode cc pc = .ok (.putfield index, 3)) (k : zJ p l e R s m args below meth c Q A G nL cells slots (Cs.set i (wH a ct S1)) lv (pc + 3) st) : zJ p l e R s m args below meth c Q A G nL cells slots Cs lv pc (va_rf x :: .ref (a 200) :: st) := by
  subst e1
  exact z_put E inlX1 tyX1 tyX1_ok nmX1 rfl hi (j := 0) rfl 17 (by decide) hlink (fun _ h => h) rfl (ty := .object "MoreStory$House") (by decide +kernel) (by cases x <;> rfl) (by cases x <;> rfl) (Nat.le_of_ble_eq_true rfl) rfl hdg k
theorem lH_3 (E : zE p s m args meth c A G ct nL cc own) {x : Int32} (hi : Cs[i]? = some (wH a ct S)) (hin : ¬ (x < 0 ∨ 4 ≤ x.toNatClampNeg)) (hdg : decode cc pc = .ok (.aaload, 1)) (k : zJ p l e R s m args below meth c Q A G nL cells slots Cs lv (pc + 1) (va_rf (S.2.2.1 x.toNatClampNeg) :: st)) : zJ p l e R s m args below meth c Q A G nL cells slots Cs lv pc (.int x :: .ref (a 3) :: st) :=
  z_qald E hi (j := 4) rfl hin hdg k
end ZH
theorem zrH {Cc : List va_W} {a : Nat → Nat} {ct : Nat → ClassId} {S : zHS} {j : Nat} (h : Cc[j]? = some (wH a ct S)) : zRv Cc (a 200) RX1 := ⟨j, 0, 1, _, _, _, h, rfl, rfl, rfl⟩
def wT (b : Nat → Nat) (h : Nat) (ct : Nat → ClassId) (S : zTS) : va_W := [(b 200, .inr (10, [.ref h, .ref (b 1), .int (S.1 2), .int (S.1 3), .int (S.1 4), .int (S.1 5), .int (S.1 6)])), (b 1, .inl (ct 0, 7, .inl S.2))]
section ZT
variable {p : Program} {l : Launch} {e : Env} {R : Room} {s : State} {m : MethodId} {args : Array Value} {below : List Frame} {meth : Method} {c : Code} {Q : State → Prop} {A : Nat → Prop} {G : va_G} {ct : Nat → ClassId} {nL cells slots : Nat} {cc : ByteArray} {own : String} {Cs : List va_W} {lv : List (Nat × Value)} {pc index i : Nat} {st : List Value}
variable {b : Nat → Nat} {h : Nat} {S S1 : zTS}
theorem gT_0 (E : zE p s m args meth c A G ct nL cc own) (hi : Cs[i]? = some (wT b h ct S)) (hlink : Cond.fieldLink own index "MoreStory$Trial" "home" "LMoreStory$Home;" ∈ wsL_law) (hdg : decode cc pc = .ok (.getfield index, 3)) (k : zJ p l e R s m args below meth c Q A G nL cells slots Cs lv (pc + 3) (.ref h :: st)) : zJ p l e R s m args below meth c Q A G nL cells slots Cs lv pc (.ref (b 200) :: st) :=
  z_get E inlX10 rfl hi (j := 0) rfl 0 (by decide) hlink (fun _ h => h) rfl hdg k
theorem gT_1 (E : zE p s m args meth c A G ct nL cc own) (hi : Cs[i]? = some (wT b h ct S)) (hlink : Cond.fieldLink own index "MoreStory$Trial" "turn" "[I" ∈ wsL_law) (hdg : decode cc pc = .ok (.getfield index, 3)) (k : zJ p l e R s m args below meth c Q A G nL cells slots Cs lv (pc + 3) (.ref (b 1) :: st)) : zJ p l e R s m args below meth c Q A G nL cells slots Cs lv pc (.ref (b 200) :: st) :=
  z_get E inlX10 rfl hi (j := 0) rfl 1 (by decide) hlink (fun _ h => h) rfl hdg k
theorem lT_1 (E : zE p s m args meth c A G ct nL cc own) {x : Int32} (hi : Cs[i]? = some (wT b h ct S)) (hin : ¬ (x < 0 ∨ 7 ≤ x.toNatClampNeg)) (hdg : decode cc pc = .ok (.iaload, 1)) (k : zJ p l e R s m args below meth c Q A G nL cells slots Cs lv (pc + 1) (.int (S.2 x.toNatClampNeg) :: st)) : zJ p l e R s m args below meth c Q A G nL cells slots Cs lv pc (.int x :: .ref (b 1) :: st) :=
  z_iald E hi (j := 1) rfl hin hdg k
theorem sT_1 (E : zE p s m args meth c A G ct nL cc own) {x y : Int32} (hi : Cs[i]? = some (wT b h ct S)) (hin : ¬ (x < 0 ∨ 7 ≤ x.toNatClampNeg)) (e1 : S1 = tSA S (upd (S.2) x.toNatClampNeg y)) (hdg : decode cc pc = .ok (.iastore, 1)) (k : zJ p l e R s m args below meth c Q A G nL cells slots (Cs.set i (wT b h ct S1)) lv (pc + 1) st) : zJ p l e R s m args below meth c Q A G nL cells slots Cs lv pc (.int y :: .int x :: .ref (b 1) :: st) := by
  subst e1
  exact z_iast E hi (j := 1) rfl hin rfl hdg k
theorem nT_1 (E : zE p s m args meth c A G ct nL cc own) (hi : Cs[i]? = some (wT b h ct S)) (hdg : decode cc pc = .ok (.arraylength, 1)) (k : zJ p l e R s m args below meth c Q A G nL cells slots Cs lv (pc + 1) (.int (Int32.ofNat (7)) :: st)) : zJ p l e R s m args below meth c Q A G nL cells slots Cs lv pc (.ref (b 1) :: st) :=
  z_alen E hi (j := 1) rfl (t0 := 0) rfl rfl hdg k
theorem gT_2 (E : zE p s m args meth c A G ct nL cc own) (hi : Cs[i]? = some (wT b h ct S)) (hlink : Cond.fieldLink own index "MoreStory$Trial" "turns" "I" ∈ wsL_law) (hdg : decode cc pc = .ok (.getfield index, 3)) (k : zJ p l e R s m args below meth c Q A G nL cells slots Cs lv (pc + 3) (.int (S.1 2) :: st)) : zJ p l e R s m args below meth c Q A G nL cells slots Cs lv pc (.ref (b 200) :: st) :=
  z_get E inlX10 rfl hi (j := 0) rfl 2 (by decide) hlink (fun _ h => h) rfl hdg k
theorem pT_2 (E : zE p s m args meth c A G ct nL cc own) {v : Int32} (hi : Cs[i]? = some (wT b h ct S)) (e1 : S1 = tSI S 2 v) (hlink : Cond.fieldLink own index "MoreStory$Trial" "turns" "I" ∈ wsL_law) (hdg : decode cc pc = .ok (.putfield index, 3)) (k : zJ p l e R s m args below meth c Q A G nL cells slots (Cs.set i (wT b h ct S1)) lv (pc + 3) st) : zJ p l e R s m args below meth c Q A G nL cells slots Cs lv pc (.int v :: .ref (b 200) :: st) := by
  subst e1
  exact z_put E inlX10 tyX10 tyX10_ok nmX10 rfl hi (j := 0) rfl 2 (by decide) hlink (fun _ h => h) rfl (ty := .int) (by decide +kernel) rfl rfl (Nat.le_of_ble_eq_true rfl) rfl hdg k
theorem gT_3 (E : zE p s m args meth c A G ct nL cc own) (hi : Cs[i]? = some (wT b h ct S)) (hlink : Cond.fieldLink own index "MoreStory$Trial" "place" "I" ∈ wsL_law) (hdg : decode cc pc = .ok (.getfield index, 3)) (k : zJ p l e R s m args below meth c Q A G nL cells slots Cs lv (pc + 3) (.int (S.1 3) :: st)) : zJ p l e R s m args below meth c Q A G nL cells slots Cs lv pc (.ref (b 200) :: st) :=
  z_get E inlX10 rfl hi (j := 0) rfl 3 (by decide) hlink (fun _ h => h) rfl hdg k
theorem pT_3 (E : zE p s m args meth c A G ct nL cc own) {v : Int32} (hi : Cs[i]? = some (wT b h ct S)) (e1 : S1 = tSI S 3 v) (hlink : Cond.fieldLink own index "MoreStory$Trial" "place" "I" ∈ wsL_law) (hdg : decode cc pc = .ok (.putfield index, 3)) (k : zJ p l e R s m args below meth c Q A G nL cells slots (Cs.set i (wT b h ct S1)) lv (pc + 3) st) : zJ p l e R s m args below meth c Q A G nL cells slots Cs lv pc (.int v :: .ref (b 200) :: st) := by
  subst e1
  exact z_put E inlX10 tyX10 tyX10_ok nmX10 rfl hi (j := 0) rfl 3 (by decide) hlink (fun _ h => h) rfl (ty := .int) (by decide +kernel) rfl rfl (Nat.le_of_ble_eq_true rfl) rfl hdg k
theorem gT_4 (E : zE p s m args meth c A G ct nL cc own) (hi : Cs[i]? = some (wT b h ct S)) (hlink : Cond.fieldLink own index "MoreStory$Trial" "coupons" "I" ∈ wsL_law) (hdg : decode cc pc = .ok (.getfield index, 3)) (k : zJ p l e R s m args below meth c Q A G nL cells slots Cs lv (pc + 3) (.int (S.1 4) :: st)) : zJ p l e R s m args below meth c Q A G nL cells slots Cs lv pc (.ref (b 200) :: st) :=
  z_get E inlX10 rfl hi (j := 0) rfl 4 (by decide) hlink (fun _ h => h) rfl hdg k
theorem pT_4 (E : zE p s m args meth c A G ct nL cc own) {v : Int32} (hi : Cs[i]? = some (wT b h ct S)) (e1 : S1 = tSI S 4 v) (hlink : Cond.fieldLink own index "MoreStory$Trial" "coupons" "I" ∈ wsL_law) (hdg : decode cc pc = .ok (.putfield index, 3)) (k : zJ p l e R s m args below meth c Q A G nL cells slots (Cs.set i (wT b h ct S1)) lv (pc + 3) st) : zJ p l e R s m args below meth c Q A G nL cells slots Cs lv pc (.int v :: .ref (b 200) :: st) := by
  subst e1
  exact z_put E inlX10 tyX10 tyX10_ok nmX10 rfl hi (j := 0) rfl 4 (by decide) hlink (fun _ h => h) rfl (ty := .int) (by decide +kernel) rfl rfl (Nat.le_of_ble_eq_true rfl) rfl hdg k
theorem gT_5 (E : zE p s m args meth c A G ct nL cc own) (hi : Cs[i]? = some (wT b h ct S)) (hlink : Cond.fieldLink own index "MoreStory$Trial" "asks" "I" ∈ wsL_law) (hdg : decode cc pc = .ok (.getfield index, 3)) (k : zJ p l e R s m args below meth c Q A G nL cells slots Cs lv (pc + 3) (.int (S.1 5) :: st)) : zJ p l e R s m args below meth c Q A G nL cells slots Cs lv pc (.ref (b 200) :: st) :=
  z_get E inlX10 rfl hi (j := 0) rfl 5 (by decide) hlink (fun _ h => h) rfl hdg k
theorem pT_5 (E : zE p s m args meth c A G ct nL cc own) {v : Int32} (hi : Cs[i]? = some (wT b h ct S)) (e1 : S1 = tSI S 5 v) (hlink : Cond.fieldLink own index "MoreStory$Trial" "asks" "I" ∈ wsL_law) (hdg : decode cc pc = .ok (.putfield index, 3)) (k : zJ p l e R s m args below meth c Q A G nL cells slots (Cs.set i (wT b h ct S1)) lv (pc + 3) st) : zJ p l e R s m args below meth c Q A G nL cells slots Cs lv pc (.int v :: .ref (b 200) :: st) := by
  subst e1
  exact z_put E inlX10 tyX10 tyX10_ok nmX10 rfl hi (j := 0) rfl 5 (by decide) hlink (fun _ h => h) rfl (ty := .int) (by decide +kernel) rfl rfl (Nat.le_of_ble_eq_true rfl) rfl hdg k
theorem gT_6 (E : zE p s m args meth c A G ct nL cc own) (hi : Cs[i]? = some (wT b h ct S)) (hlink : Cond.fieldLink own index "MoreStory$Trial" "minutes" "I" ∈ wsL_law) (hdg : decode cc pc = .ok (.getfield index, 3)) (k : zJ p l e R s m args below meth c Q A G nL cells slots Cs lv (pc + 3) (.int (S.1 6) :: st)) : zJ p l e R s m args below meth c Q A G nL cells slots Cs lv pc (.ref (b 200) :: st) :=
  z_get E inlX10 rfl hi (j := 0) rfl 6 (by decide) hlink (fun _ h => h) rfl hdg k
theorem pT_6 (E : zE p s m args meth c A G ct nL cc own) {v : Int32} (hi : Cs[i]? = some (wT b h ct S)) (e1 : S1 = tSI S 6 v) (hlink : Cond.fieldLink own index "MoreStory$Trial" "minutes" "I" ∈ wsL_law) (hdg : decode cc pc = .ok (.putfield index, 3)) (k : zJ p l e R s m args below meth c Q A G nL cells slots (Cs.set i (wT b h ct S1)) lv (pc + 3) st) : zJ p l e R s m args below meth c Q A G nL cells slots Cs lv pc (.int v :: .ref (b 200) :: st) := by
  subst e1
  exact z_put E inlX10 tyX10 tyX10_ok nmX10 rfl hi (j := 0) rfl 6 (by decide) hlink (fun _ h => h) rfl (ty := .int) (by decide +kernel) rfl rfl (Nat.le_of_ble_eq_true rfl) rfl hdg k
end ZT
theorem zrT {Cc : List va_W} {b : Nat → Nat} {h : Nat} {ct : Nat → ClassId} {S : zTS} {j : Nat} (h0 : Cc[j]? = some (wT b h ct S)) : zRv Cc (b 200) RX10 := ⟨j, 0, 10, _, _, _, h0, rfl, rfl, rfl⟩
def wR (b : Nat → Nat) (ct : Nat → ClassId) (S : zRS) : va_W := [(b 200, .inr (5, [.ref (b 0), .ref (b 1), .ref (b 2), .ref (b 3), .ref (b 4), .int (S.1 5), .int (S.1 6), .int (S.1 7), .int (S.1 8)])), (b 0, .inl (ct 0, 100, .inl (S.2 0))), (b 1, .inl (ct 0, 100, .inl (S.2 1))), (b 2, .inl (ct 0, 10, .inl (S.2 2))), (b 3, .inl (ct 0, 10, .inl (S.2 3))), (b 4, .inl (ct 0, 10, .inl (S.2 4)))]
section ZR
variable {p : Program} {l : Launch} {e : Env} {R : Room} {s : State} {m : MethodId} {args : Array Value} {below : List Frame} {meth : Method} {c : Code} {Q : State → Prop} {A : Nat → Prop} {G : va_G} {ct : Nat → ClassId} {nL cells slots : Nat} {cc : ByteArray} {own : String} {Cs : List va_W} {lv : List (Nat × Value)} {pc index i : Nat} {st : List Value}
variable {b : Nat → Nat} {S S1 : zRS}
theorem gR_0 (E : zE p s m args meth c A G ct nL cc own) (hi : Cs[i]? = some (wR b ct S)) (hlink : Cond.fieldLink own index "MoreStory$Reader" "text" "[I" ∈ wsL_law) (hdg : decode cc pc = .ok (.getfield index, 3)) (k : zJ p l e R s m args below meth c Q A G nL cells slots Cs lv (pc + 3) (.ref (b 0) :: st)) : zJ p l e R s m args below meth c Q A G nL cells slots Cs lv pc (.ref (b 200) :: st) :=
  z_get E inlX5 rfl hi (j := 0) rfl 0 (by decide) hlink (fun _ h => h) rfl hdg k
theorem lR_0 (E : zE p s m args meth c A G ct nL cc own) {x : Int32} (hi : Cs[i]? = some (wR b ct S)) (hin : ¬ (x < 0 ∨ 100 ≤ x.toNatClampNeg)) (hdg : decode cc pc = .ok (.iaload, 1)) (k : zJ p l e R s m args below meth c Q A G nL cells slots Cs lv (pc + 1) (.int (S.2 0 x.toNatClampNeg) :: st)) : zJ p l e R s m args below meth c Q A G nL cells slots Cs lv pc (.int x :: .ref (b 0) :: st) :=
  z_iald E hi (j := 1) rfl hin hdg k
theorem sR_0 (E : zE p s m args meth c A G ct nL cc own) {x y : Int32} (hi : Cs[i]? = some (wR b ct S)) (hin : ¬ (x < 0 ∨ 100 ≤ x.toNatClampNeg)) (e1 : S1 = rSA S 0 (upd (S.2 0) x.toNatClampNeg y)) (hdg : decode cc pc = .ok (.iastore, 1)) (k : zJ p l e R s m args below meth c Q A G nL cells slots (Cs.set i (wR b ct S1)) lv (pc + 1) st) : zJ p l e R s m args below meth c Q A G nL cells slots Cs lv pc (.int y :: .int x :: .ref (b 0) :: st) := by
  subst e1
  exact z_iast E hi (j := 1) rfl hin rfl hdg k
theorem nR_0 (E : zE p s m args meth c A G ct nL cc own) (hi : Cs[i]? = some (wR b ct S)) (hdg : decode cc pc = .ok (.arraylength, 1)) (k : zJ p l e R s m args below meth c Q A G nL cells slots Cs lv (pc + 1) (.int (Int32.ofNat (100)) :: st)) : zJ p l e R s m args below meth c Q A G nL cells slots Cs lv pc (.ref (b 0) :: st) :=
  z_alen E hi (j := 1) rfl (t0 := 0) rfl rfl hdg k
theorem gR_1 (E : zE p s m args meth c A G ct nL cc own) (hi : Cs[i]? = some (wR b ct S)) (hlink : Cond.fieldLink own index "MoreStory$Reader" "code" "[I" ∈ wsL_law) (hdg : decode cc pc = .ok (.getfield index, 3)) (k : zJ p l e R s m args below meth c Q A G nL cells slots Cs lv (pc + 3) (.ref (b 1) :: st)) : zJ p l e R s m args below meth c Q A G nL cells slots Cs lv pc (.ref (b 200) :: st) :=
  z_get E inlX5 rfl hi (j := 0) rfl 1 (by decide) hlink (fun _ h => h) rfl hdg k
theorem lR_1 (E : zE p s m args meth c A G ct nL cc own) {x : Int32} (hi : Cs[i]? = some (wR b ct S)) (hin : ¬ (x < 0 ∨ 100 ≤ x.toNatClampNeg)) (hdg : decode cc pc = .ok (.iaload, 1)) (k : zJ p l e R s m args below meth c Q A G nL cells slots Cs lv (pc + 1) (.int (S.2 1 x.toNatClampNeg) :: st)) : zJ p l e R s m args below meth c Q A G nL cells slots Cs lv pc (.int x :: .ref (b 1) :: st) :=
  z_iald E hi (j := 2) rfl hin hdg k
theorem sR_1 (E : zE p s m args meth c A G ct nL cc own) {x y : Int32} (hi : Cs[i]? = some (wR b ct S)) (hin : ¬ (x < 0 ∨ 100 ≤ x.toNatClampNeg)) (e1 : S1 = rSA S 1 (upd (S.2 1) x.toNatClampNeg y)) (hdg : decode cc pc = .ok (.iastore, 1)) (k : zJ p l e R s m args below meth c Q A G nL cells slots (Cs.set i (wR b ct S1)) lv (pc + 1) st) : zJ p l e R s m args below meth c Q A G nL cells slots Cs lv pc (.int y :: .int x :: .ref (b 1) :: st) := by
  subst e1
  exact z_iast E hi (j := 2) rfl hin rfl hdg k
theorem nR_1 (E : zE p s m args meth c A G ct nL cc own) (hi : Cs[i]? = some (wR b ct S)) (hdg : decode cc pc = .ok (.arraylength, 1)) (k : zJ p l e R s m args below meth c Q A G nL cells slots Cs lv (pc + 1) (.int (Int32.ofNat (100)) :: st)) : zJ p l e R s m args below meth c Q A G nL cells slots Cs lv pc (.ref (b 1) :: st) :=
  z_alen E hi (j := 2) rfl (t0 := 0) rfl rfl hdg k
theorem gR_2 (E : zE p s m args meth c A G ct nL cc own) (hi : Cs[i]? = some (wR b ct S)) (hlink : Cond.fieldLink own index "MoreStory$Reader" "words" "[I" ∈ wsL_law) (hdg : decode cc pc = .ok (.getfield index, 3)) (k : zJ p l e R s m args below meth c Q A G nL cells slots Cs lv (pc + 3) (.ref (b 2) :: st)) : zJ p l e R s m args below meth c Q A G nL cells slots Cs lv pc (.ref (b 200) :: st) :=
  z_get E inlX5 rfl hi (j := 0) rfl 2 (by decide) hlink (fun _ h => h) rfl hdg k
theorem lR_2 (E : zE p s m args meth c A G ct nL cc own) {x : Int32} (hi : Cs[i]? = some (wR b ct S)) (hin : ¬ (x < 0 ∨ 10 ≤ x.toNatClampNeg)) (hdg : decode cc pc = .ok (.iaload, 1)) (k : zJ p l e R s m args below meth c Q A G nL cells slots Cs lv (pc + 1) (.int (S.2 2 x.toNatClampNeg) :: st)) : zJ p l e R s m args below meth c Q A G nL cells slots Cs lv pc (.int x :: .ref (b 2) :: st) :=
  z_iald E hi (j := 3) rfl hin hdg k
theorem sR_2 (E : zE p s m args meth c A G ct nL cc own) {x y : Int32} (hi : Cs[i]? = some (wR b ct S)) (hin : ¬ (x < 0 ∨ 10 ≤ x.toNatClampNeg)) (e1 : S1 = rSA S 2 (upd (S.2 2) x.toNatClampNeg y)) (hdg : decode cc pc = .ok (.iastore, 1)) (k : zJ p l e R s m args below meth c Q A G nL cells slots (Cs.set i (wR b ct S1)) lv (pc + 1) st) : zJ p l e R s m args below meth c Q A G nL cells slots Cs lv pc (.int y :: .int x :: .ref (b 2) :: st) := by
  subst e1
  exact z_iast E hi (j := 3) rfl hin rfl hdg k
theorem nR_2 (E : zE p s m args meth c A G ct nL cc own) (hi : Cs[i]? = some (wR b ct S)) (hdg : decode cc pc = .ok (.arraylength, 1)) (k : zJ p l e R s m args below meth c Q A G nL cells slots Cs lv (pc + 1) (.int (Int32.ofNat (10)) :: st)) : zJ p l e R s m args below meth c Q A G nL cells slots Cs lv pc (.ref (b 2) :: st) :=
  z_alen E hi (j := 3) rfl (t0 := 0) rfl rfl hdg k
theorem gR_3 (E : zE p s m args meth c A G ct nL cc own) (hi : Cs[i]? = some (wR b ct S)) (hlink : Cond.fieldLink own index "MoreStory$Reader" "numbers" "[I" ∈ wsL_law) (hdg : decode cc pc = .ok (.getfield index, 3)) (k : zJ p l e R s m args below meth c Q A G nL cells slots Cs lv (pc + 3) (.ref (b 3) :: st)) : zJ p l e R s m args below meth c Q A G nL cells slots Cs lv pc (.ref (b 200) :: st) :=
  z_get E inlX5 rfl hi (j := 0) rfl 3 (by decide) hlink (fun _ h => h) rfl hdg k
theorem lR_3 (E : zE p s m args meth c A G ct nL cc own) {x : Int32} (hi : Cs[i]? = some (wR b ct S)) (hin : ¬ (x < 0 ∨ 10 ≤ x.toNatClampNeg)) (hdg : decode cc pc = .ok (.iaload, 1)) (k : zJ p l e R s m args below meth c Q A G nL cells slots Cs lv (pc + 1) (.int (S.2 3 x.toNatClampNeg) :: st)) : zJ p l e R s m args below meth c Q A G nL cells slots Cs lv pc (.int x :: .ref (b 3) :: st) :=
  z_iald E hi (j := 4) rfl hin hdg k
theorem sR_3 (E : zE p s m args meth c A G ct nL cc own) {x y : Int32} (hi : Cs[i]? = some (wR b ct S)) (hin : ¬ (x < 0 ∨ 10 ≤ x.toNatClampNeg)) (e1 : S1 = rSA S 3 (upd (S.2 3) x.toNatClampNeg y)) (hdg : decode cc pc = .ok (.iastore, 1)) (k : zJ p l e R s m args below meth c Q A G nL cells slots (Cs.set i (wR b ct S1)) lv (pc + 1) st) : zJ p l e R s m args below meth c Q A G nL cells slots Cs lv pc (.int y :: .int x :: .ref (b 3) :: st) := by
  subst e1
  exact z_iast E hi (j := 4) rfl hin rfl hdg k
theorem nR_3 (E : zE p s m args meth c A G ct nL cc own) (hi : Cs[i]? = some (wR b ct S)) (hdg : decode cc pc = .ok (.arraylength, 1)) (k : zJ p l e R s m args below meth c Q A G nL cells slots Cs lv (pc + 1) (.int (Int32.ofNat (10)) :: st)) : zJ p l e R s m args below meth c Q A G nL cells slots Cs lv pc (.ref (b 3) :: st) :=
  z_alen E hi (j := 4) rfl (t0 := 0) rfl rfl hdg k
theorem gR_4 (E : zE p s m args meth c A G ct nL cc own) (hi : Cs[i]? = some (wR b ct S)) (hlink : Cond.fieldLink own index "MoreStory$Reader" "ends" "[I" ∈ wsL_law) (hdg : decode cc pc = .ok (.getfield index, 3)) (k : zJ p l e R s m args below meth c Q A G nL cells slots Cs lv (pc + 3) (.ref (b 4) :: st)) : zJ p l e R s m args below meth c Q A G nL cells slots Cs lv pc (.ref (b 200) :: st) :=
  z_get E inlX5 rfl hi (j := 0) rfl 4 (by decide) hlink (fun _ h => h) rfl hdg k
theorem lR_4 (E : zE p s m args meth c A G ct nL cc own) {x : Int32} (hi : Cs[i]? = some (wR b ct S)) (hin : ¬ (x < 0 ∨ 10 ≤ x.toNatClampNeg)) (hdg : decode cc pc = .ok (.iaload, 1)) (k : zJ p l e R s m args below meth c Q A G nL cells slots Cs lv (pc + 1) (.int (S.2 4 x.toNatClampNeg) :: st)) : zJ p l e R s m args below meth c Q A G nL cells slots Cs lv pc (.int x :: .ref (b 4) :: st) :=
  z_iald E hi (j := 5) rfl hin hdg k
theorem sR_4 (E : zE p s m args meth c A G ct nL cc own) {x y : Int32} (hi : Cs[i]? = some (wR b ct S)) (hin : ¬ (x < 0 ∨ 10 ≤ x.toNatClampNeg)) (e1 : S1 = rSA S 4 (upd (S.2 4) x.toNatClampNeg y)) (hdg : decode cc pc = .ok (.iastore, 1)) (k : zJ p l e R s m args below meth c Q A G nL cells slots (Cs.set i (wR b ct S1)) lv (pc + 1) st) : zJ p l e R s m args below meth c Q A G nL cells slots Cs lv pc (.int y :: .int x :: .ref (b 4) :: st) := by
  subst e1
  exact z_iast E hi (j := 5) rfl hin rfl hdg k
theorem nR_4 (E : zE p s m args meth c A G ct nL cc own) (hi : Cs[i]? = some (wR b ct S)) (hdg : decode cc pc = .ok (.arraylength, 1)) (k : zJ p l e R s m args below meth c Q A G nL cells slots Cs lv (pc + 1) (.int (Int32.ofNat (10)) :: st)) : zJ p l e R s m args below meth c Q A G nL cells slots Cs lv pc (.ref (b 4) :: st) :=
  z_alen E hi (j := 5) rfl (t0 := 0) rfl rfl hdg k
theorem gR_5 (E : zE p s m args meth c A G ct nL cc own) (hi : Cs[i]? = some (wR b ct S)) (hlink : Cond.fieldLink own index "MoreStory$Reader" "length" "I" ∈ wsL_law) (hdg : decode cc pc = .ok (.getfield index, 3)) (k : zJ p l e R s m args below meth c Q A G nL cells slots Cs lv (pc + 3) (.int (S.1 5) :: st)) : zJ p l e R s m args below meth c Q A G nL cells slots Cs lv pc (.ref (b 200) :: st) :=
  z_get E inlX5 rfl hi (j := 0) rfl 5 (by decide) hlink (fun _ h => h) rfl hdg k
theorem pR_5 (E : zE p s m args meth c A G ct nL cc own) {v : Int32} (hi : Cs[i]? = some (wR b ct S)) (e1 : S1 = rSI S 5 v) (hlink : Cond.fieldLink own index "MoreStory$Reader" "length" "I" ∈ wsL_law) (hdg : decode cc pc = .ok (.putfield index, 3)) (k : zJ p l e R s m args below meth c Q A G nL cells slots (Cs.set i (wR b ct S1)) lv (pc + 3) st) : zJ p l e R s m args below meth c Q A G nL cells slots Cs lv pc (.int v :: .ref (b 200) :: st) := by
  subst e1
  exact z_put E inlX5 tyX5 tyX5_ok nmX5 rfl hi (j := 0) rfl 5 (by decide) hlink (fun _ h => h) rfl (ty := .int) (by decide +kernel) rfl rfl (Nat.le_of_ble_eq_true rfl) rfl hdg k
theorem gR_6 (E : zE p s m args meth c A G ct nL cc own) (hi : Cs[i]? = some (wR b ct S)) (hlink : Cond.fieldLink own index "MoreStory$Reader" "at" "I" ∈ wsL_law) (hdg : decode cc pc = .ok (.getfield index, 3)) (k : zJ p l e R s m args below meth c Q A G nL cells slots Cs lv (pc + 3) (.int (S.1 6) :: st)) : zJ p l e R s m args below meth c Q A G nL cells slots Cs lv pc (.ref (b 200) :: st) :=
  z_get E inlX5 rfl hi (j := 0) rfl 6 (by decide) hlink (fun _ h => h) rfl hdg k
theorem pR_6 (E : zE p s m args meth c A G ct nL cc own) {v : Int32} (hi : Cs[i]? = some (wR b ct S)) (e1 : S1 = rSI S 6 v) (hlink : Cond.fieldLink own index "MoreStory$Reader" "at" "I" ∈ wsL_law) (hdg : decode cc pc = .ok (.putfield index, 3)) (k : zJ p l e R s m args below meth c Q A G nL cells slots (Cs.set i (wR b ct S1)) lv (pc + 3) st) : zJ p l e R s m args below meth c Q A G nL cells slots Cs lv pc (.int v :: .ref (b 200) :: st) := by
  subst e1
  exact z_put E inlX5 tyX5 tyX5_ok nmX5 rfl hi (j := 0) rfl 6 (by decide) hlink (fun _ h => h) rfl (ty := .int) (by decide +kernel) rfl rfl (Nat.le_of_ble_eq_true rfl) rfl hdg k
theorem gR_7 (E : zE p s m args meth c A G ct nL cc own) (hi : Cs[i]? = some (wR b ct S)) (hlink : Cond.fieldLink own index "MoreStory$Reader" "codes" "I" ∈ wsL_law) (hdg : decode cc pc = .ok (.getfield index, 3)) (k : zJ p l e R s m args below meth c Q A G nL cells slots Cs lv (pc + 3) (.int (S.1 7) :: st)) : zJ p l e R s m args below meth c Q A G nL cells slots Cs lv pc (.ref (b 200) :: st) :=
  z_get E inlX5 rfl hi (j := 0) rfl 7 (by decide) hlink (fun _ h => h) rfl hdg k
theorem pR_7 (E : zE p s m args meth c A G ct nL cc own) {v : Int32} (hi : Cs[i]? = some (wR b ct S)) (e1 : S1 = rSI S 7 v) (hlink : Cond.fieldLink own index "MoreStory$Reader" "codes" "I" ∈ wsL_law) (hdg : decode cc pc = .ok (.putfield index, 3)) (k : zJ p l e R s m args below meth c Q A G nL cells slots (Cs.set i (wR b ct S1)) lv (pc + 3) st) : zJ p l e R s m args below meth c Q A G nL cells slots Cs lv pc (.int v :: .ref (b 200) :: st) := by
  subst e1
  exact z_put E inlX5 tyX5 tyX5_ok nmX5 rfl hi (j := 0) rfl 7 (by decide) hlink (fun _ h => h) rfl (ty := .int) (by decide +kernel) rfl rfl (Nat.le_of_ble_eq_true rfl) rfl hdg k
theorem gR_8 (E : zE p s m args meth c A G ct nL cc own) (hi : Cs[i]? = some (wR b ct S)) (hlink : Cond.fieldLink own index "MoreStory$Reader" "clauses" "I" ∈ wsL_law) (hdg : decode cc pc = .ok (.getfield index, 3)) (k : zJ p l e R s m args below meth c Q A G nL cells slots Cs lv (pc + 3) (.int (S.1 8) :: st)) : zJ p l e R s m args below meth c Q A G nL cells slots Cs lv pc (.ref (b 200) :: st) :=
  z_get E inlX5 rfl hi (j := 0) rfl 8 (by decide) hlink (fun _ h => h) rfl hdg k
theorem pR_8 (E : zE p s m args meth c A G ct nL cc own) {v : Int32} (hi : Cs[i]? = some (wR b ct S)) (e1 : S1 = rSI S 8 v) (hlink : Cond.fieldLink own index "MoreStory$Reader" "clauses" "I" ∈ wsL_law) (hdg : decode cc pc = .ok (.putfield index, 3)) (k : zJ p l e R s m args below meth c Q A G nL cells slots (Cs.set i (wR b ct S1)) lv (pc + 3) st) : zJ p l e R s m args below meth c Q A G nL cells slots Cs lv pc (.int v :: .ref (b 200) :: st) := by
  subst e1
  exact z_put E inlX5 tyX5 tyX5_ok nmX5 rfl hi (j := 0) rfl 8 (by decide) hlink (fun _ h => h) rfl (ty := .int) (by decide +kernel) rfl rfl (Nat.le_of_ble_eq_true rfl) rfl hdg k
end ZR
theorem zrR {Cc : List va_W} {b : Nat → Nat} {ct : Nat → ClassId} {S : zRS} {j : Nat} (h0 : Cc[j]? = some (wR b ct S)) : zRv Cc (b 200) RX5 := ⟨j, 0, 5, _, _, _, h0, rfl, rfl, rfl⟩
def wX (x : Nat → Nat) (n k t r p g y z : Nat) (ct : Nat → ClassId) (S : zRS) : va_W := [(x 200, .inr (11, [.ref n, .ref k, .ref t, .ref r, .ref p, .ref (x 5), .ref (x 6), .ref g, .ref y, .ref z, .int (S.1 10), .int (S.1 11)])), (x 5, .inl (ct 0, 6, .inl (S.2 5))), (x 6, .inl (ct 0, 6, .inl (S.2 6)))]
section ZX
variable {p : Program} {l : Launch} {e : Env} {R : Room} {s : State} {m : MethodId} {args : Array Value} {below : List Frame} {meth : Method} {c : Code} {Q : State → Prop} {A : Nat → Prop} {G : va_G} {ct : Nat → ClassId} {nL cells slots : Nat} {cc : ByteArray} {own : String} {Cs : List va_W} {lv : List (Nat × Value)} {pc index i : Nat} {st : List Value}
variable {x9 : Nat → Nat} {n k t r9 p9 g y9 z : Nat} {S S1 : zRS}
theorem gX_0 (E : zE p s m args meth c A G ct nL cc own) (hi : Cs[i]? = some (wX x9 n k t r9 p9 g y9 z ct S)) (hlink : Cond.fieldLink own index "MoreStory" "now" "LMoreStory$Home;" ∈ wsL_law) (hdg : decode cc pc = .ok (.getfield index, 3)) (k : zJ p l e R s m args below meth c Q A G nL cells slots Cs lv (pc + 3) (.ref n :: st)) : zJ p l e R s m args below meth c Q A G nL cells slots Cs lv pc (.ref (x9 200) :: st) :=
  z_get E inlX11 rfl hi (j := 0) rfl 0 (by decide) hlink (fun _ h => h) rfl hdg k
theorem gX_1 (E : zE p s m args meth c A G ct nL cc own) (hi : Cs[i]? = some (wX x9 n k t r9 p9 g y9 z ct S)) (hlink : Cond.fieldLink own index "MoreStory" "kept" "LMoreStory$Home;" ∈ wsL_law) (hdg : decode cc pc = .ok (.getfield index, 3)) (k : zJ p l e R s m args below meth c Q A G nL cells slots Cs lv (pc + 3) (.ref k :: st)) : zJ p l e R s m args below meth c Q A G nL cells slots Cs lv pc (.ref (x9 200) :: st) :=
  z_get E inlX11 rfl hi (j := 0) rfl 1 (by decide) hlink (fun _ h => h) rfl hdg k
theorem gX_2 (E : zE p s m args meth c A G ct nL cc own) (hi : Cs[i]? = some (wX x9 n k t r9 p9 g y9 z ct S)) (hlink : Cond.fieldLink own index "MoreStory" "trial" "LMoreStory$Trial;" ∈ wsL_law) (hdg : decode cc pc = .ok (.getfield index, 3)) (k : zJ p l e R s m args below meth c Q A G nL cells slots Cs lv (pc + 3) (.ref t :: st)) : zJ p l e R s m args below meth c Q A G nL cells slots Cs lv pc (.ref (x9 200) :: st) :=
  z_get E inlX11 rfl hi (j := 0) rfl 2 (by decide) hlink (fun _ h => h) rfl hdg k
theorem gX_3 (E : zE p s m args meth c A G ct nL cc own) (hi : Cs[i]? = some (wX x9 n k t r9 p9 g y9 z ct S)) (hlink : Cond.fieldLink own index "MoreStory" "reader" "LMoreStory$Reader;" ∈ wsL_law) (hdg : decode cc pc = .ok (.getfield index, 3)) (k : zJ p l e R s m args below meth c Q A G nL cells slots Cs lv (pc + 3) (.ref r9 :: st)) : zJ p l e R s m args below meth c Q A G nL cells slots Cs lv pc (.ref (x9 200) :: st) :=
  z_get E inlX11 rfl hi (j := 0) rfl 3 (by decide) hlink (fun _ h => h) rfl hdg k
theorem gX_4 (E : zE p s m args meth c A G ct nL cc own) (hi : Cs[i]? = some (wX x9 n k t r9 p9 g y9 z ct S)) (hlink : Cond.fieldLink own index "MoreStory" "tapes" "[[J" ∈ wsL_law) (hdg : decode cc pc = .ok (.getfield index, 3)) (k : zJ p l e R s m args below meth c Q A G nL cells slots Cs lv (pc + 3) (.ref p9 :: st)) : zJ p l e R s m args below meth c Q A G nL cells slots Cs lv pc (.ref (x9 200) :: st) :=
  z_get E inlX11 rfl hi (j := 0) rfl 4 (by decide) hlink (fun _ h => h) rfl hdg k
theorem gX_5 (E : zE p s m args meth c A G ct nL cc own) (hi : Cs[i]? = some (wX x9 n k t r9 p9 g y9 z ct S)) (hlink : Cond.fieldLink own index "MoreStory" "sorts" "[I" ∈ wsL_law) (hdg : decode cc pc = .ok (.getfield index, 3)) (k : zJ p l e R s m args below meth c Q A G nL cells slots Cs lv (pc + 3) (.ref (x9 5) :: st)) : zJ p l e R s m args below meth c Q A G nL cells slots Cs lv pc (.ref (x9 200) :: st) :=
  z_get E inlX11 rfl hi (j := 0) rfl 5 (by decide) hlink (fun _ h => h) rfl hdg k
theorem lX_5 (E : zE p s m args meth c A G ct nL cc own) {x : Int32} (hi : Cs[i]? = some (wX x9 n k t r9 p9 g y9 z ct S)) (hin : ¬ (x < 0 ∨ 6 ≤ x.toNatClampNeg)) (hdg : decode cc pc = .ok (.iaload, 1)) (k : zJ p l e R s m args below meth c Q A G nL cells slots Cs lv (pc + 1) (.int (S.2 5 x.toNatClampNeg) :: st)) : zJ p l e R s m args below meth c Q A G nL cells slots Cs lv pc (.int x :: .ref (x9 5) :: st) :=
  z_iald E hi (j := 1) rfl hin hdg k
theorem sX_5 (E : zE p s m args meth c A G ct nL cc own) {x y : Int32} (hi : Cs[i]? = some (wX x9 n k t r9 p9 g y9 z ct S)) (hin : ¬ (x < 0 ∨ 6 ≤ x.toNatClampNeg)) (e1 : S1 = rSA S 5 (upd (S.2 5) x.toNatClampNeg y)) (hdg : decode cc pc = .ok (.iastore, 1)) (k : zJ p l e R s m args below meth c Q A G nL cells slots (Cs.set i (wX x9 n k t r9 p9 g y9 z ct S1)) lv (pc + 1) st) : zJ p l e R s m args below meth c Q A G nL cells slots Cs lv pc (.int y :: .int x :: .ref (x9 5) :: st) := by
  subst e1
  exact z_iast E hi (j := 1) rfl hin rfl hdg k
theorem nX_5 (E : zE p s m args meth c A G ct nL cc own) (hi : Cs[i]? = some (wX x9 n k t r9 p9 g y9 z ct S)) (hdg : decode cc pc = .ok (.arraylength, 1)) (k : zJ p l e R s m args below meth c Q A G nL cells slots Cs lv (pc + 1) (.int (Int32.ofNat (6)) :: st)) : zJ p l e R s m args below meth c Q A G nL cells slots Cs lv pc (.ref (x9 5) :: st) :=
  z_alen E hi (j := 1) rfl (t0 := 0) rfl rfl hdg k
theorem gX_6 (E : zE p s m args meth c A G ct nL cc own) (hi : Cs[i]? = some (wX x9 n k t r9 p9 g y9 z ct S)) (hlink : Cond.fieldLink own index "MoreStory" "sizes" "[I" ∈ wsL_law) (hdg : decode cc pc = .ok (.getfield index, 3)) (k : zJ p l e R s m args below meth c Q A G nL cells slots Cs lv (pc + 3) (.ref (x9 6) :: st)) : zJ p l e R s m args below meth c Q A G nL cells slots Cs lv pc (.ref (x9 200) :: st) :=
  z_get E inlX11 rfl hi (j := 0) rfl 6 (by decide) hlink (fun _ h => h) rfl hdg k
theorem lX_6 (E : zE p s m args meth c A G ct nL cc own) {x : Int32} (hi : Cs[i]? = some (wX x9 n k t r9 p9 g y9 z ct S)) (hin : ¬ (x < 0 ∨ 6 ≤ x.toNatClampNeg)) (hdg : decode cc pc = .ok (.iaload, 1)) (k : zJ p l e R s m args below meth c Q A G nL cells slots Cs lv (pc + 1) (.int (S.2 6 x.toNatClampNeg) :: st)) : zJ p l e R s m args below meth c Q A G nL cells slots Cs lv pc (.int x :: .ref (x9 6) :: st) :=
  z_iald E hi (j := 2) rfl hin hdg k
theorem sX_6 (E : zE p s m args meth c A G ct nL cc own) {x y : Int32} (hi : Cs[i]? = some (wX x9 n k t r9 p9 g y9 z ct S)) (hin : ¬ (x < 0 ∨ 6 ≤ x.toNatClampNeg)) (e1 : S1 = rSA S 6 (upd (S.2 6) x.toNatClampNeg y)) (hdg : decode cc pc = .ok (.iastore, 1)) (k : zJ p l e R s m args below meth c Q A G nL cells slots (Cs.set i (wX x9 n k t r9 p9 g y9 z ct S1)) lv (pc + 1) st) : zJ p l e R s m args below meth c Q A G nL cells slots Cs lv pc (.int y :: .int x :: .ref (x9 6) :: st) := by
  subst e1
  exact z_iast E hi (j := 2) rfl hin rfl hdg k
theorem nX_6 (E : zE p s m args meth c A G ct nL cc own) (hi : Cs[i]? = some (wX x9 n k t r9 p9 g y9 z ct S)) (hdg : decode cc pc = .ok (.arraylength, 1)) (k : zJ p l e R s m args below meth c Q A G nL cells slots Cs lv (pc + 1) (.int (Int32.ofNat (6)) :: st)) : zJ p l e R s m args below meth c Q A G nL cells slots Cs lv pc (.ref (x9 6) :: st) :=
  z_alen E hi (j := 2) rfl (t0 := 0) rfl rfl hdg k
theorem gX_7 (E : zE p s m args meth c A G ct nL cc own) (hi : Cs[i]? = some (wX x9 n k t r9 p9 g y9 z ct S)) (hlink : Cond.fieldLink own index "MoreStory" "trace" "[I" ∈ wsL_law) (hdg : decode cc pc = .ok (.getfield index, 3)) (k : zJ p l e R s m args below meth c Q A G nL cells slots Cs lv (pc + 3) (.ref g :: st)) : zJ p l e R s m args below meth c Q A G nL cells slots Cs lv pc (.ref (x9 200) :: st) :=
  z_get E inlX11 rfl hi (j := 0) rfl 7 (by decide) hlink (fun _ h => h) rfl hdg k
theorem gX_8 (E : zE p s m args meth c A G ct nL cc own) (hi : Cs[i]? = some (wX x9 n k t r9 p9 g y9 z ct S)) (hlink : Cond.fieldLink own index "MoreStory" "tried" "[I" ∈ wsL_law) (hdg : decode cc pc = .ok (.getfield index, 3)) (k : zJ p l e R s m args below meth c Q A G nL cells slots Cs lv (pc + 3) (.ref y9 :: st)) : zJ p l e R s m args below meth c Q A G nL cells slots Cs lv pc (.ref (x9 200) :: st) :=
  z_get E inlX11 rfl hi (j := 0) rfl 8 (by decide) hlink (fun _ h => h) rfl hdg k
theorem gX_9 (E : zE p s m args meth c A G ct nL cc own) (hi : Cs[i]? = some (wX x9 n k t r9 p9 g y9 z ct S)) (hlink : Cond.fieldLink own index "MoreStory" "best" "[I" ∈ wsL_law) (hdg : decode cc pc = .ok (.getfield index, 3)) (k : zJ p l e R s m args below meth c Q A G nL cells slots Cs lv (pc + 3) (.ref z :: st)) : zJ p l e R s m args below meth c Q A G nL cells slots Cs lv pc (.ref (x9 200) :: st) :=
  z_get E inlX11 rfl hi (j := 0) rfl 9 (by decide) hlink (fun _ h => h) rfl hdg k
theorem gX_10 (E : zE p s m args meth c A G ct nL cc own) (hi : Cs[i]? = some (wX x9 n k t r9 p9 g y9 z ct S)) (hlink : Cond.fieldLink own index "MoreStory" "housed" "I" ∈ wsL_law) (hdg : decode cc pc = .ok (.getfield index, 3)) (k : zJ p l e R s m args below meth c Q A G nL cells slots Cs lv (pc + 3) (.int (S.1 10) :: st)) : zJ p l e R s m args below meth c Q A G nL cells slots Cs lv pc (.ref (x9 200) :: st) :=
  z_get E inlX11 rfl hi (j := 0) rfl 10 (by decide) hlink (fun _ h => h) rfl hdg k
theorem pX_10 (E : zE p s m args meth c A G ct nL cc own) {v : Int32} (hi : Cs[i]? = some (wX x9 n k t r9 p9 g y9 z ct S)) (e1 : S1 = rSI S 10 v) (hlink : Cond.fieldLink own index "MoreStory" "housed" "I" ∈ wsL_law) (hdg : decode cc pc = .ok (.putfield index, 3)) (k : zJ p l e R s m args below meth c Q A G nL cells slots (Cs.set i (wX x9 n k t r9 p9 g y9 z ct S1)) lv (pc + 3) st) : zJ p l e R s m args below meth c Q A G nL cells slots Cs lv pc (.int v :: .ref (x9 200) :: st) := by
  subst e1
  exact z_put E inlX11 tyX11 tyX11_ok nmX11 rfl hi (j := 0) rfl 10 (by decide) hlink (fun _ h => h) rfl (ty := .int) (by decide +kernel) rfl rfl (Nat.le_of_ble_eq_true rfl) rfl hdg k
theorem gX_11 (E : zE p s m args meth c A G ct nL cc own) (hi : Cs[i]? = some (wX x9 n k t r9 p9 g y9 z ct S)) (hlink : Cond.fieldLink own index "MoreStory" "imaged" "Z" ∈ wsL_law) (hdg : decode cc pc = .ok (.getfield index, 3)) (k : zJ p l e R s m args below meth c Q A G nL cells slots Cs lv (pc + 3) (.int (S.1 11) :: st)) : zJ p l e R s m args below meth c Q A G nL cells slots Cs lv pc (.ref (x9 200) :: st) :=
  z_get E inlX11 rfl hi (j := 0) rfl 11 (by decide) hlink (fun _ h => h) rfl hdg k
theorem pX_11 (E : zE p s m args meth c A G ct nL cc own) {v : Int32} (hi : Cs[i]? = some (wX x9 n k t r9 p9 g y9 z ct S)) (hv : v = 0 ∨ v = 1) (e1 : S1 = rSI S 11 v) (hlink : Cond.fieldLink own index "MoreStory" "imaged" "Z" ∈ wsL_law) (hdg : decode cc pc = .ok (.putfield index, 3)) (k : zJ p l e R s m args below meth c Q A G nL cells slots (Cs.set i (wX x9 n k t r9 p9 g y9 z ct S1)) lv (pc + 3) st) : zJ p l e R s m args below meth c Q A G nL cells slots Cs lv pc (.int v :: .ref (x9 200) :: st) := by
  subst e1
  exact z_put E inlX11 tyX11 tyX11_ok nmX11 rfl hi (j := 0) rfl 11 (by decide) hlink (fun _ h => h) rfl (ty := .boolean) (by decide +kernel) (by rcases hv with h | h <;> subst h <;> decide) (by rcases hv with h | h <;> subst h <;> decide) (Nat.le_of_ble_eq_true rfl) rfl hdg k
end ZX
theorem zrX {Cc : List va_W} {x9 : Nat → Nat} {n k t r9 p9 g y9 z : Nat} {ct : Nat → ClassId} {S : zRS} {j : Nat} (h0 : Cc[j]? = some (wX x9 n k t r9 p9 g y9 z ct S)) : zRv Cc (x9 200) RX11 := ⟨j, 0, 11, _, _, _, h0, rfl, rfl, rfl⟩
def wQ (u : Nat → Nat) (ct : Nat → ClassId) (S : zQS) : va_W := [(u 200, .inr (2, [.ref (u 0), .ref (u 1), .ref (u 2), .ref (u 3), .ref (u 4)])), (u 0, .inl (ct 0, S.1 0, .inl (S.2 0))), (u 1, .inl (ct 0, S.1 1, .inl (S.2 1))), (u 2, .inl (ct 0, S.1 2, .inl (S.2 2))), (u 3, .inl (ct 0, S.1 3, .inl (S.2 3))), (u 4, .inl (ct 0, S.1 4, .inl (S.2 4)))]
section ZQ
variable {p : Program} {l : Launch} {e : Env} {R : Room} {s : State} {m : MethodId} {args : Array Value} {below : List Frame} {meth : Method} {c : Code} {Q : State → Prop} {A : Nat → Prop} {G : va_G} {ct : Nat → ClassId} {nL cells slots : Nat} {cc : ByteArray} {own : String} {Cs : List va_W} {lv : List (Nat × Value)} {pc index i : Nat} {st : List Value}
variable {u : Nat → Nat} {S S1 : zQS}
theorem gQ_0 (E : zE p s m args meth c A G ct nL cc own) (hi : Cs[i]? = some (wQ u ct S)) (hlink : Cond.fieldLink own index "MoreStory$House" "words" "[I" ∈ wsL_law) (hdg : decode cc pc = .ok (.getfield index, 3)) (k : zJ p l e R s m args below meth c Q A G nL cells slots Cs lv (pc + 3) (.ref (u 0) :: st)) : zJ p l e R s m args below meth c Q A G nL cells slots Cs lv pc (.ref (u 200) :: st) :=
  z_get E inlX2 rfl hi (j := 0) rfl 0 (by decide) hlink (fun _ h => h) rfl hdg k
theorem lQ_0 (E : zE p s m args meth c A G ct nL cc own) {x : Int32} (hi : Cs[i]? = some (wQ u ct S)) (hin : ¬ (x < 0 ∨ S.1 0 ≤ x.toNatClampNeg)) (hdg : decode cc pc = .ok (.iaload, 1)) (k : zJ p l e R s m args below meth c Q A G nL cells slots Cs lv (pc + 1) (.int (S.2 0 x.toNatClampNeg) :: st)) : zJ p l e R s m args below meth c Q A G nL cells slots Cs lv pc (.int x :: .ref (u 0) :: st) :=
  z_iald E hi (j := 1) rfl hin hdg k
theorem sQ_0 (E : zE p s m args meth c A G ct nL cc own) {x y : Int32} (hi : Cs[i]? = some (wQ u ct S)) (hin : ¬ (x < 0 ∨ S.1 0 ≤ x.toNatClampNeg)) (e1 : S1 = qSA S 0 (upd (S.2 0) x.toNatClampNeg y)) (hdg : decode cc pc = .ok (.iastore, 1)) (k : zJ p l e R s m args below meth c Q A G nL cells slots (Cs.set i (wQ u ct S1)) lv (pc + 1) st) : zJ p l e R s m args below meth c Q A G nL cells slots Cs lv pc (.int y :: .int x :: .ref (u 0) :: st) := by
  subst e1
  exact z_iast E hi (j := 1) rfl hin rfl hdg k
theorem nQ_0 (E : zE p s m args meth c A G ct nL cc own) (hi : Cs[i]? = some (wQ u ct S)) (hdg : decode cc pc = .ok (.arraylength, 1)) (k : zJ p l e R s m args below meth c Q A G nL cells slots Cs lv (pc + 1) (.int (Int32.ofNat (S.1 0)) :: st)) : zJ p l e R s m args below meth c Q A G nL cells slots Cs lv pc (.ref (u 0) :: st) :=
  z_alen E hi (j := 1) rfl (t0 := 0) rfl rfl hdg k
theorem gQ_1 (E : zE p s m args meth c A G ct nL cc own) (hi : Cs[i]? = some (wQ u ct S)) (hlink : Cond.fieldLink own index "MoreStory$House" "numbers" "[I" ∈ wsL_law) (hdg : decode cc pc = .ok (.getfield index, 3)) (k : zJ p l e R s m args below meth c Q A G nL cells slots Cs lv (pc + 3) (.ref (u 1) :: st)) : zJ p l e R s m args below meth c Q A G nL cells slots Cs lv pc (.ref (u 200) :: st) :=
  z_get E inlX2 rfl hi (j := 0) rfl 1 (by decide) hlink (fun _ h => h) rfl hdg k
theorem lQ_1 (E : zE p s m args meth c A G ct nL cc own) {x : Int32} (hi : Cs[i]? = some (wQ u ct S)) (hin : ¬ (x < 0 ∨ S.1 1 ≤ x.toNatClampNeg)) (hdg : decode cc pc = .ok (.iaload, 1)) (k : zJ p l e R s m args below meth c Q A G nL cells slots Cs lv (pc + 1) (.int (S.2 1 x.toNatClampNeg) :: st)) : zJ p l e R s m args below meth c Q A G nL cells slots Cs lv pc (.int x :: .ref (u 1) :: st) :=
  z_iald E hi (j := 2) rfl hin hdg k
theorem sQ_1 (E : zE p s m args meth c A G ct nL cc own) {x y : Int32} (hi : Cs[i]? = some (wQ u ct S)) (hin : ¬ (x < 0 ∨ S.1 1 ≤ x.toNatClampNeg)) (e1 : S1 = qSA S 1 (upd (S.2 1) x.toNatClampNeg y)) (hdg : decode cc pc = .ok (.iastore, 1)) (k : zJ p l e R s m args below meth c Q A G nL cells slots (Cs.set i (wQ u ct S1)) lv (pc + 1) st) : zJ p l e R s m args below meth c Q A G nL cells slots Cs lv pc (.int y :: .int x :: .ref (u 1) :: st) := by
  subst e1
  exact z_iast E hi (j := 2) rfl hin rfl hdg k
theorem nQ_1 (E : zE p s m args meth c A G ct nL cc own) (hi : Cs[i]? = some (wQ u ct S)) (hdg : decode cc pc = .ok (.arraylength, 1)) (k : zJ p l e R s m args below meth c Q A G nL cells slots Cs lv (pc + 1) (.int (Int32.ofNat (S.1 1)) :: st)) : zJ p l e R s m args below meth c Q A G nL cells slots Cs lv pc (.ref (u 1) :: st) :=
  z_alen E hi (j := 2) rfl (t0 := 0) rfl rfl hdg k
theorem gQ_2 (E : zE p s m args meth c A G ct nL cc own) (hi : Cs[i]? = some (wQ u ct S)) (hlink : Cond.fieldLink own index "MoreStory$House" "ends" "[I" ∈ wsL_law) (hdg : decode cc pc = .ok (.getfield index, 3)) (k : zJ p l e R s m args below meth c Q A G nL cells slots Cs lv (pc + 3) (.ref (u 2) :: st)) : zJ p l e R s m args below meth c Q A G nL cells slots Cs lv pc (.ref (u 200) :: st) :=
  z_get E inlX2 rfl hi (j := 0) rfl 2 (by decide) hlink (fun _ h => h) rfl hdg k
theorem lQ_2 (E : zE p s m args meth c A G ct nL cc own) {x : Int32} (hi : Cs[i]? = some (wQ u ct S)) (hin : ¬ (x < 0 ∨ S.1 2 ≤ x.toNatClampNeg)) (hdg : decode cc pc = .ok (.iaload, 1)) (k : zJ p l e R s m args below meth c Q A G nL cells slots Cs lv (pc + 1) (.int (S.2 2 x.toNatClampNeg) :: st)) : zJ p l e R s m args below meth c Q A G nL cells slots Cs lv pc (.int x :: .ref (u 2) :: st) :=
  z_iald E hi (j := 3) rfl hin hdg k
theorem sQ_2 (E : zE p s m args meth c A G ct nL cc own) {x y : Int32} (hi : Cs[i]? = some (wQ u ct S)) (hin : ¬ (x < 0 ∨ S.1 2 ≤ x.toNatClampNeg)) (e1 : S1 = qSA S 2 (upd (S.2 2) x.toNatClampNeg y)) (hdg : decode cc pc = .ok (.iastore, 1)) (k : zJ p l e R s m args below meth c Q A G nL cells slots (Cs.set i (wQ u ct S1)) lv (pc + 1) st) : zJ p l e R s m args below meth c Q A G nL cells slots Cs lv pc (.int y :: .int x :: .ref (u 2) :: st) := by
  subst e1
  exact z_iast E hi (j := 3) rfl hin rfl hdg k
theorem nQ_2 (E : zE p s m args meth c A G ct nL cc own) (hi : Cs[i]? = some (wQ u ct S)) (hdg : decode cc pc = .ok (.arraylength, 1)) (k : zJ p l e R s m args below meth c Q A G nL cells slots Cs lv (pc + 1) (.int (Int32.ofNat (S.1 2)) :: st)) : zJ p l e R s m args below meth c Q A G nL cells slots Cs lv pc (.ref (u 2) :: st) :=
  z_alen E hi (j := 3) rfl (t0 := 0) rfl rfl hdg k
theorem gQ_3 (E : zE p s m args meth c A G ct nL cc own) (hi : Cs[i]? = some (wQ u ct S)) (hlink : Cond.fieldLink own index "MoreStory$House" "code" "[I" ∈ wsL_law) (hdg : decode cc pc = .ok (.getfield index, 3)) (k : zJ p l e R s m args below meth c Q A G nL cells slots Cs lv (pc + 3) (.ref (u 3) :: st)) : zJ p l e R s m args below meth c Q A G nL cells slots Cs lv pc (.ref (u 200) :: st) :=
  z_get E inlX2 rfl hi (j := 0) rfl 3 (by decide) hlink (fun _ h => h) rfl hdg k
theorem lQ_3 (E : zE p s m args meth c A G ct nL cc own) {x : Int32} (hi : Cs[i]? = some (wQ u ct S)) (hin : ¬ (x < 0 ∨ S.1 3 ≤ x.toNatClampNeg)) (hdg : decode cc pc = .ok (.iaload, 1)) (k : zJ p l e R s m args below meth c Q A G nL cells slots Cs lv (pc + 1) (.int (S.2 3 x.toNatClampNeg) :: st)) : zJ p l e R s m args below meth c Q A G nL cells slots Cs lv pc (.int x :: .ref (u 3) :: st) :=
  z_iald E hi (j := 4) rfl hin hdg k
theorem sQ_3 (E : zE p s m args meth c A G ct nL cc own) {x y : Int32} (hi : Cs[i]? = some (wQ u ct S)) (hin : ¬ (x < 0 ∨ S.1 3 ≤ x.toNatClampNeg)) (e1 : S1 = qSA S 3 (upd (S.2 3) x.toNatClampNeg y)) (hdg : decode cc pc = .ok (.iastore, 1)) (k : zJ p l e R s m args below meth c Q A G nL cells slots (Cs.set i (wQ u ct S1)) lv (pc + 1) st) : zJ p l e R s m args below meth c Q A G nL cells slots Cs lv pc (.int y :: .int x :: .ref (u 3) :: st) := by
  subst e1
  exact z_iast E hi (j := 4) rfl hin rfl hdg k
theorem nQ_3 (E : zE p s m args meth c A G ct nL cc own) (hi : Cs[i]? = some (wQ u ct S)) (hdg : decode cc pc = .ok (.arraylength, 1)) (k : zJ p l e R s m args below meth c Q A G nL cells slots Cs lv (pc + 1) (.int (Int32.ofNat (S.1 3)) :: st)) : zJ p l e R s m args below meth c Q A G nL cells slots Cs lv pc (.ref (u 3) :: st) :=
  z_alen E hi (j := 4) rfl (t0 := 0) rfl rfl hdg k
theorem gQ_4 (E : zE p s m args meth c A G ct nL cc own) (hi : Cs[i]? = some (wQ u ct S)) (hlink : Cond.fieldLink own index "MoreStory$House" "seen" "[I" ∈ wsL_law) (hdg : decode cc pc = .ok (.getfield index, 3)) (k : zJ p l e R s m args below meth c Q A G nL cells slots Cs lv (pc + 3) (.ref (u 4) :: st)) : zJ p l e R s m args below meth c Q A G nL cells slots Cs lv pc (.ref (u 200) :: st) :=
  z_get E inlX2 rfl hi (j := 0) rfl 4 (by decide) hlink (fun _ h => h) rfl hdg k
theorem lQ_4 (E : zE p s m args meth c A G ct nL cc own) {x : Int32} (hi : Cs[i]? = some (wQ u ct S)) (hin : ¬ (x < 0 ∨ S.1 4 ≤ x.toNatClampNeg)) (hdg : decode cc pc = .ok (.iaload, 1)) (k : zJ p l e R s m args below meth c Q A G nL cells slots Cs lv (pc + 1) (.int (S.2 4 x.toNatClampNeg) :: st)) : zJ p l e R s m args below meth c Q A G nL cells slots Cs lv pc (.int x :: .ref (u 4) :: st) :=
  z_iald E hi (j := 5) rfl hin hdg k
theorem sQ_4 (E : zE p s m args meth c A G ct nL cc own) {x y : Int32} (hi : Cs[i]? = some (wQ u ct S)) (hin : ¬ (x < 0 ∨ S.1 4 ≤ x.toNatClampNeg)) (e1 : S1 = qSA S 4 (upd (S.2 4) x.toNatClampNeg y)) (hdg : decode cc pc = .ok (.iastore, 1)) (k : zJ p l e R s m args below meth c Q A G nL cells slots (Cs.set i (wQ u ct S1)) lv (pc + 1) st) : zJ p l e R s m args below meth c Q A G nL cells slots Cs lv pc (.int y :: .int x :: .ref (u 4) :: st) := by
  subst e1
  exact z_iast E hi (j := 5) rfl hin rfl hdg k
theorem nQ_4 (E : zE p s m args meth c A G ct nL cc own) (hi : Cs[i]? = some (wQ u ct S)) (hdg : decode cc pc = .ok (.arraylength, 1)) (k : zJ p l e R s m args below meth c Q A G nL cells slots Cs lv (pc + 1) (.int (Int32.ofNat (S.1 4)) :: st)) : zJ p l e R s m args below meth c Q A G nL cells slots Cs lv pc (.ref (u 4) :: st) :=
  z_alen E hi (j := 5) rfl (t0 := 0) rfl rfl hdg k
end ZQ
theorem zrQ {Cc : List va_W} {u : Nat → Nat} {ct : Nat → ClassId} {S : zQS} {j : Nat} (h0 : Cc[j]? = some (wQ u ct S)) : zRv Cc (u 200) RX2 := ⟨j, 0, 2, _, _, _, h0, rfl, rfl, rfl⟩
def wA (a n : Nat) (ct : Nat → ClassId) (f : Nat → Int32) : va_W := [(a, .inl (ct 0, n, .inl f))]
section ZA
variable {p : Program} {l : Launch} {e : Env} {R : Room} {s : State} {m : MethodId} {args : Array Value} {below : List Frame} {meth : Method} {c : Code} {Q : State → Prop} {A : Nat → Prop} {G : va_G} {ct : Nat → ClassId} {nL cells slots : Nat} {cc : ByteArray} {own : String} {Cs : List va_W} {lv : List (Nat × Value)} {pc index i : Nat} {st : List Value}
variable {a n : Nat} {S S1 : Nat → Int32}
theorem lA_0 (E : zE p s m args meth c A G ct nL cc own) {x : Int32} (hi : Cs[i]? = some (wA a n ct S)) (hin : ¬ (x < 0 ∨ n ≤ x.toNatClampNeg)) (hdg : decode cc pc = .ok (.iaload, 1)) (k : zJ p l e R s m args below meth c Q A G nL cells slots Cs lv (pc + 1) (.int (S x.toNatClampNeg) :: st)) : zJ p l e R s m args below meth c Q A G nL cells slots Cs lv pc (.int x :: .ref a :: st) :=
  z_iald E hi (j := 0) rfl hin hdg k
theorem sA_0 (E : zE p s m args meth c A G ct nL cc own) {x y : Int32} (hi : Cs[i]? = some (wA a n ct S)) (hin : ¬ (x < 0 ∨ n ≤ x.toNatClampNeg)) (e1 : S1 = upd S x.toNatClampNeg y) (hdg : decode cc pc = .ok (.iastore, 1)) (k : zJ p l e R s m args below meth c Q A G nL cells slots (Cs.set i (wA a n ct S1)) lv (pc + 1) st) : zJ p l e R s m args below meth c Q A G nL cells slots Cs lv pc (.int y :: .int x :: .ref a :: st) := by
  subst e1
  exact z_iast E hi (j := 0) rfl hin rfl hdg k
theorem nA_0 (E : zE p s m args meth c A G ct nL cc own) (hi : Cs[i]? = some (wA a n ct S)) (hdg : decode cc pc = .ok (.arraylength, 1)) (k : zJ p l e R s m args below meth c Q A G nL cells slots Cs lv (pc + 1) (.int (Int32.ofNat n) :: st)) : zJ p l e R s m args below meth c Q A G nL cells slots Cs lv pc (.ref a :: st) :=
  z_alen E hi (j := 0) rfl (t0 := 0) rfl rfl hdg k
end ZA
def wPa (g q : Nat) (S : zPS) : va_W := [(q, .inr (pcls S.1, [.int S.1, .int S.2.1, .int S.2.2, .ref g]))]
section ZP
variable {p : Program} {l : Launch} {e : Env} {R : Room} {s : State} {m : MethodId} {args : Array Value} {below : List Frame} {meth : Method} {c : Code} {Q : State → Prop} {A : Nat → Prop} {G : va_G} {ct : Nat → ClassId} {nL cells slots : Nat} {cc : ByteArray} {own : String} {Cs : List va_W} {lv : List (Nat × Value)} {pc index i : Nat} {st : List Value}
variable {g q : Nat} {S : zPS}
theorem gP_0 (E : zE p s m args meth c A G ct nL cc own) {ref : String} (hi : Cs[i]? = some (wPa g q S)) (hlink : Cond.fieldLink own index ref "kind" "I" ∈ wsL_law) (hsame : ∀ x, s.fieldFound? "MoreStory$Parent" "kind" "I" = some x → s.fieldFound? ref "kind" "I" = some x) (hdg : decode cc pc = .ok (.getfield index, 3)) (k : zJ p l e R s m args below meth c Q A G nL cells slots Cs lv (pc + 3) (.int S.1 :: st)) : zJ p l e R s m args below meth c Q A G nL cells slots Cs lv pc (.ref q :: st) := by
  unfold wPa at hi
  rcases pcls_cases S.1 with h | h | h | h | h | h | h <;> rw [h] at hi
  · exact z_get E inlX6 rfl hi (j := 0) rfl 0 (by decide) hlink hsame rfl hdg k
  · exact z_get E inlX7 rfl hi (j := 0) rfl 0 (by decide) hlink hsame rfl hdg k
  · exact z_get E inlX8 rfl hi (j := 0) rfl 0 (by decide) hlink hsame rfl hdg k
  · exact z_get E inlX3 rfl hi (j := 0) rfl 0 (by decide) hlink hsame rfl hdg k
  · exact z_get E inlX0 rfl hi (j := 0) rfl 0 (by decide) hlink hsame rfl hdg k
  · exact z_get E inlX9 rfl hi (j := 0) rfl 0 (by decide) hlink hsame rfl hdg k
  · exact z_get E inlX4 rfl hi (j := 0) rfl 0 (by decide) hlink hsame rfl hdg k
theorem gP_1 (E : zE p s m args meth c A G ct nL cc own) {ref : String} (hi : Cs[i]? = some (wPa g q S)) (hlink : Cond.fieldLink own index ref "i" "I" ∈ wsL_law) (hsame : ∀ x, s.fieldFound? "MoreStory$Parent" "i" "I" = some x → s.fieldFound? ref "i" "I" = some x) (hdg : decode cc pc = .ok (.getfield index, 3)) (k : zJ p l e R s m args below meth c Q A G nL cells slots Cs lv (pc + 3) (.int S.2.1 :: st)) : zJ p l e R s m args below meth c Q A G nL cells slots Cs lv pc (.ref q :: st) := by
  unfold wPa at hi
  rcases pcls_cases S.1 with h | h | h | h | h | h | h <;> rw [h] at hi
  · exact z_get E inlX6 rfl hi (j := 0) rfl 1 (by decide) hlink hsame rfl hdg k
  · exact z_get E inlX7 rfl hi (j := 0) rfl 1 (by decide) hlink hsame rfl hdg k
  · exact z_get E inlX8 rfl hi (j := 0) rfl 1 (by decide) hlink hsame rfl hdg k
  · exact z_get E inlX3 rfl hi (j := 0) rfl 1 (by decide) hlink hsame rfl hdg k
  · exact z_get E inlX0 rfl hi (j := 0) rfl 1 (by decide) hlink hsame rfl hdg k
  · exact z_get E inlX9 rfl hi (j := 0) rfl 1 (by decide) hlink hsame rfl hdg k
  · exact z_get E inlX4 rfl hi (j := 0) rfl 1 (by decide) hlink hsame rfl hdg k
theorem gP_2 (E : zE p s m args meth c A G ct nL cc own) {ref : String} (hi : Cs[i]? = some (wPa g q S)) (hlink : Cond.fieldLink own index ref "v" "I" ∈ wsL_law) (hsame : ∀ x, s.fieldFound? "MoreStory$Parent" "v" "I" = some x → s.fieldFound? ref "v" "I" = some x) (hdg : decode cc pc = .ok (.getfield index, 3)) (k : zJ p l e R s m args below meth c Q A G nL cells slots Cs lv (pc + 3) (.int S.2.2 :: st)) : zJ p l e R s m args below meth c Q A G nL cells slots Cs lv pc (.ref q :: st) := by
  unfold wPa at hi
  rcases pcls_cases S.1 with h | h | h | h | h | h | h <;> rw [h] at hi
  · exact z_get E inlX6 rfl hi (j := 0) rfl 2 (by decide) hlink hsame rfl hdg k
  · exact z_get E inlX7 rfl hi (j := 0) rfl 2 (by decide) hlink hsame rfl hdg k
  · exact z_get E inlX8 rfl hi (j := 0) rfl 2 (by decide) hlink hsame rfl hdg k
  · exact z_get E inlX3 rfl hi (j := 0) rfl 2 (by decide) hlink hsame rfl hdg k
  · exact z_get E inlX0 rfl hi (j := 0) rfl 2 (by decide) hlink hsame rfl hdg k
  · exact z_get E inlX9 rfl hi (j := 0) rfl 2 (by decide) hlink hsame rfl hdg k
  · exact z_get E inlX4 rfl hi (j := 0) rfl 2 (by decide) hlink hsame rfl hdg k
theorem gP_3 (E : zE p s m args meth c A G ct nL cc own) {ref : String} (hi : Cs[i]? = some (wPa g q S)) (hlink : Cond.fieldLink own index ref "log" "[I" ∈ wsL_law) (hsame : ∀ x, s.fieldFound? "MoreStory$Parent" "log" "[I" = some x → s.fieldFound? ref "log" "[I" = some x) (hdg : decode cc pc = .ok (.getfield index, 3)) (k : zJ p l e R s m args below meth c Q A G nL cells slots Cs lv (pc + 3) (.ref g :: st)) : zJ p l e R s m args below meth c Q A G nL cells slots Cs lv pc (.ref q :: st) := by
  unfold wPa at hi
  rcases pcls_cases S.1 with h | h | h | h | h | h | h <;> rw [h] at hi
  · exact z_get E inlX6 rfl hi (j := 0) rfl 3 (by decide) hlink hsame rfl hdg k
  · exact z_get E inlX7 rfl hi (j := 0) rfl 3 (by decide) hlink hsame rfl hdg k
  · exact z_get E inlX8 rfl hi (j := 0) rfl 3 (by decide) hlink hsame rfl hdg k
  · exact z_get E inlX3 rfl hi (j := 0) rfl 3 (by decide) hlink hsame rfl hdg k
  · exact z_get E inlX0 rfl hi (j := 0) rfl 3 (by decide) hlink hsame rfl hdg k
  · exact z_get E inlX9 rfl hi (j := 0) rfl 3 (by decide) hlink hsame rfl hdg k
  · exact z_get E inlX4 rfl hi (j := 0) rfl 3 (by decide) hlink hsame rfl hdg k
end ZP
theorem zrP6 {Cc : List va_W} {g q : Nat} {S : zPS} {j : Nat} (hk : S.1 = 1) (h0 : Cc[j]? = some (wPa g q S)) : zRv Cc q RX6 := ⟨j, 0, 6, _, _, _, h0, by unfold wPa; rw [hk]; rfl, rfl, rfl⟩
theorem zrP7 {Cc : List va_W} {g q : Nat} {S : zPS} {j : Nat} (hk : S.1 = 2) (h0 : Cc[j]? = some (wPa g q S)) : zRv Cc q RX7 := ⟨j, 0, 7, _, _, _, h0, by unfold wPa; rw [hk]; rfl, rfl, rfl⟩
theorem zrP8 {Cc : List va_W} {g q : Nat} {S : zPS} {j : Nat} (hk : S.1 = 3) (h0 : Cc[j]? = some (wPa g q S)) : zRv Cc q RX8 := ⟨j, 0, 8, _, _, _, h0, by unfold wPa; rw [hk]; rfl, rfl, rfl⟩
theorem zrP3 {Cc : List va_W} {g q : Nat} {S : zPS} {j : Nat} (hk : S.1 = 4) (h0 : Cc[j]? = some (wPa g q S)) : zRv Cc q RX3 := ⟨j, 0, 3, _, _, _, h0, by unfold wPa; rw [hk]; rfl, rfl, rfl⟩
theorem zrP0 {Cc : List va_W} {g q : Nat} {S : zPS} {j : Nat} (hk : S.1 = 5) (h0 : Cc[j]? = some (wPa g q S)) : zRv Cc q RX0 := ⟨j, 0, 0, _, _, _, h0, by unfold wPa; rw [hk]; rfl, rfl, rfl⟩
theorem zrP9 {Cc : List va_W} {g q : Nat} {S : zPS} {j : Nat} (hk : S.1 = 6) (h0 : Cc[j]? = some (wPa g q S)) : zRv Cc q RX9 := ⟨j, 0, 9, _, _, _, h0, by unfold wPa; rw [hk]; rfl, rfl, rfl⟩
theorem zrP4 {Cc : List va_W} {g q : Nat} {S : zPS} {j : Nat} (h1 : ¬ S.1 = 1) (h2 : ¬ S.1 = 2) (h3 : ¬ S.1 = 3) (h4 : ¬ S.1 = 4) (h5 : ¬ S.1 = 5) (h6 : ¬ S.1 = 6) (h0 : Cc[j]? = some (wPa g q S)) : zRv Cc q RX4 := ⟨j, 0, 4, _, _, _, h0, by unfold wPa pcls; rw [if_neg h1, if_neg h2, if_neg h3, if_neg h4, if_neg h5, if_neg h6]; rfl, rfl, rfl⟩
def wV (p : Nat → Nat) (ct : Nat → ClassId) (S : Nat → Nat → Int64) : va_W := [(p 6, .inl (ct 4, 6, .inr (.inr (.inr (.inr (fun i => if i < 6 then some (p i) else none)))))), (p 0, .inl (ct 1, 60, .inr (.inl (S 0)))), (p 1, .inl (ct 1, 60, .inr (.inl (S 1)))), (p 2, .inl (ct 1, 60, .inr (.inl (S 2)))), (p 3, .inl (ct 1, 60, .inr (.inl (S 3)))), (p 4, .inl (ct 1, 60, .inr (.inl (S 4)))), (p 5, .inl (ct 1, 60, .inr (.inl (S 5))))]
theorem wV_at {p : Nat → Nat} {ct : Nat → ClassId} {S : Nat → Nat → Int64} : ∀ j : Nat, j < 6 → (wV p ct S)[j + 1]? = some (p j, .inl (ct 1, 60, .inr (.inl (S j))))
  | 0, _ => rfl
  | 1, _ => rfl
  | 2, _ => rfl
  | 3, _ => rfl
  | 4, _ => rfl
  | 5, _ => rfl
  | j + 6, h => absurd h (by omega)
theorem wV_set {p : Nat → Nat} {ct : Nat → ClassId} {S : Nat → Nat → Int64} {f : Nat → Int64} : ∀ j : Nat, j < 6 → (wV p ct S).set (j + 1) (p j, .inl (ct 1, 60, .inr (.inl f))) = wV p ct (va_up S j f)
  | 0, _ => rfl
  | 1, _ => rfl
  | 2, _ => rfl
  | 3, _ => rfl
  | 4, _ => rfl
  | 5, _ => rfl
  | j + 6, h => absurd h (by omega)
section ZV
variable {p : Program} {l : Launch} {e : Env} {R : Room} {s : State} {m : MethodId} {args : Array Value} {below : List Frame} {meth : Method} {c : Code} {Q : State → Prop} {A : Nat → Prop} {G : va_G} {ct : Nat → ClassId} {nL cells slots : Nat} {cc : ByteArray} {own : String} {Cs : List va_W} {lv : List (Nat × Value)} {pc index i : Nat} {st : List Value}
variable {p9 : Nat → Nat} {S S1 : Nat → Nat → Int64}
theorem vzL (E : zE p s m args meth c A G ct nL cc own) {j : Nat} {x : Int32} (hi : Cs[i]? = some (wV p9 ct S)) (hj : j < 6) (hin : ¬ (x < 0 ∨ 60 ≤ x.toNatClampNeg)) (hdg : decode cc pc = .ok (.laload, 1)) (k : zJ p l e R s m args below meth c Q A G nL cells slots Cs lv (pc + 1) (.long (S j x.toNatClampNeg) :: st)) : zJ p l e R s m args below meth c Q A G nL cells slots Cs lv pc (.int x :: .ref (p9 j) :: st) :=
  z_lald E hi (wV_at j hj) hin hdg k
theorem vzS (E : zE p s m args meth c A G ct nL cc own) {j : Nat} {x : Int32} {y : Int64} (hi : Cs[i]? = some (wV p9 ct S)) (hj : j < 6) (hin : ¬ (x < 0 ∨ 60 ≤ x.toNatClampNeg)) (e1 : S1 = va_up S j (vp_updL (S j) x.toNatClampNeg y)) (hdg : decode cc pc = .ok (.lastore, 1)) (k : zJ p l e R s m args below meth c Q A G nL cells slots (Cs.set i (wV p9 ct S1)) lv (pc + 1) st) : zJ p l e R s m args below meth c Q A G nL cells slots Cs lv pc (.long y :: .int x :: .ref (p9 j) :: st) := by
  subst e1
  exact z_last E hi (wV_at j hj) hin (wV_set j hj) hdg k
theorem vzA (E : zE p s m args meth c A G ct nL cc own) {x : Int32} (hi : Cs[i]? = some (wV p9 ct S)) (hin : ¬ (x < 0 ∨ 6 ≤ x.toNatClampNeg)) (hdg : decode cc pc = .ok (.aaload, 1)) (k : zJ p l e R s m args below meth c Q A G nL cells slots Cs lv (pc + 1) (.ref (p9 x.toNatClampNeg) :: st)) : zJ p l e R s m args below meth c Q A G nL cells slots Cs lv pc (.int x :: .ref (p9 6) :: st) := by
  intro H locs ls hP hD hS hl
  obtain ⟨q0, h0, -⟩ := zfl_cell (j := 0) hi rfl
  have hl2 : x.toNatClampNeg < 6 := Nat.lt_of_not_le fun q => hin (Or.inr q)
  have hk := k H locs ls hP hD hS hl
  have hv : va_rf (if x.toNatClampNeg < 6 then some (p9 x.toNatClampNeg) else none) = .ref (p9 x.toNatClampNeg) := by rw [if_pos hl2]; rfl
  rw [← hv] at hk
  exact W.aald (v := va_rf (if x.toNatClampNeg < 6 then some (p9 x.toNatClampNeg) else none)) (ty := .array .long) E.1 E.2.1 (hP q0 _ h0) ((E.2.2.2.2.2.1.2 4 _ rfl).1 6 (fun i => va_rf (if i < 6 then some (p9 i) else none))) rfl (fun q => by cases q) (by show ¬ (x < 0 ∨ (arrV _ _ _).slots.size ≤ _); rw [arrV_size]; exact hin) (by show (arrV _ _ _).slots[_]? = _; rw [arrV_read _ _ hl2]) rfl rfl hdg hk
end ZV
