/-! B: THE TEXT's clauses; the class's -/
abbrev rbQc : Type := Nat × Nat × List rbTk
def pLit (b : Nat → Nat) : List Nat → Nat → Bool × Nat
  | [], pos => (true, pos)
  | c :: t, pos => if b pos = c then pLit b t (pos + 1) else (false, pos)
def pWi (c : Nat) : Nat := if c = 99 then 0 else if c = 102 then 1 else if c = 108 then 2 else 3
def pWl (w : Nat) : List Nat := if w = 0 then [99, 97, 108, 109] else if w = 1 then [102, 117, 115, 115] else if w = 2 then [108, 97, 116, 101] else [100, 101, 101, 112]
def pC2 (b : Nat → Nat) (w pos : Nat) : Bool × Nat × rbQc := if (pNum b pos).1 then (if 2 ≤ w then (true, (pNum b pos).2.1, (w, (pNum b pos).2.2, [])) else if b (pNum b pos).2.1 = 32 then ((pE (pF b 4) b ((pNum b pos).2.1 + 1)).1, (pE (pF b 4) b ((pNum b pos).2.1 + 1)).2.1, (w, (pNum b pos).2.2, (pE (pF b 4) b ((pNum b pos).2.1 + 1)).2.2)) else (false, (pNum b pos).2.1, (0, 0, []))) else (false, (pNum b pos).2.1, (0, 0, []))
def pC (b : Nat → Nat) (pos : Nat) : Bool × Nat × rbQc := if (pLit b (pWl (pWi (b pos))) pos).1 then (if b (pLit b (pWl (pWi (b pos))) pos).2 = 32 then pC2 b (pWi (b pos)) ((pLit b (pWl (pWi (b pos))) pos).2 + 1) else (false, (pLit b (pWl (pWi (b pos))) pos).2, (0, 0, []))) else (false, (pLit b (pWl (pWi (b pos))) pos).2, (0, 0, []))
def pTx (b : Nat → Nat) (n : Nat) : Nat → Nat → List rbQc → Bool × Nat × List rbQc
  | 0, pos, _ => (false, pos, [])
  | f + 1, pos, cl => if (pC b pos).1 then (if (pC b pos).2.1 = n then (true, (pC b pos).2.1, cl ++ [(pC b pos).2.2]) else if f = 0 then (false, (pC b pos).2.1, []) else if b (pC b pos).2.1 = 59 then pTx b n f ((pC b pos).2.1 + 1) (cl ++ [(pC b pos).2.2]) else (false, (pC b pos).2.1, [])) else (false, (pC b pos).2.1, [])
def rbTks (cl : List rbQc) : List rbTk := (cl.map (fun c => c.2.2)).flatten
def rbEn (f2 f3 f4 : Nat → Int32) : List rbQc → Nat → Nat → Prop
  | [], _, _ => True
  | c :: t, k, s => f2 k = nI c.1 ∧ f3 k = nI c.2.1 ∧ f4 k = nI (s + c.2.2.length) ∧ rbEn f2 f3 f4 t (k + 1) (s + c.2.2.length)
theorem rbTks_a {a b : List rbQc} : rbTks (a ++ b) = rbTks a ++ rbTks b := by
  unfold rbTks
  rw [List.map_append, List.flatten_append]
theorem rbTks_1 {c : rbQc} : rbTks [c] = c.2.2 := by
  show c.2.2 ++ [] = c.2.2
  rw [List.append_nil]
theorem rbTks_c {c : rbQc} {t : List rbQc} : rbTks (c :: t) = c.2.2 ++ rbTks t := rfl
theorem rbEn_app {f2 f3 f4 : Nat → Int32} : ∀ {a b : List rbQc} {k s : Nat}, rbEn f2 f3 f4 (a ++ b) k s ↔ rbEn f2 f3 f4 a k s ∧ rbEn f2 f3 f4 b (k + a.length) (s + (rbTks a).length)
  | [], b, k, s => by
    show rbEn f2 f3 f4 b k s ↔ True ∧ rbEn f2 f3 f4 b (k + 0) (s + 0)
    rw [Nat.add_zero, Nat.add_zero, true_and]
  | t :: a, b, k, s => by
    show f2 k = nI t.1 ∧ f3 k = nI t.2.1 ∧ f4 k = nI (s + t.2.2.length) ∧ rbEn f2 f3 f4 (a ++ b) (k + 1) (s + t.2.2.length) ↔ (f2 k = nI t.1 ∧ f3 k = nI t.2.1 ∧ f4 k = nI (s + t.2.2.length) ∧ rbEn f2 f3 f4 a (k + 1) (s + t.2.2.length)) ∧ rbEn f2 f3 f4 b (k + (a.length + 1)) (s + (rbTks (t :: a)).length)
    rw [rbEn_app, rbTks_c, List.length_append, show k + (a.length + 1) = k + 1 + a.length by omega, show s + (t.2.2.length + (rbTks a).length) = s + t.2.2.length + (rbTks a).length by omega]
    simp only [and_assoc]
theorem rbEn_u {f2 f3 f4 g2 g3 g4 : Nat → Int32} : ∀ {a : List rbQc} {k s : Nat}, (∀ i : Nat, k ≤ i → i < k + a.length → g2 i = f2 i ∧ g3 i = f3 i ∧ g4 i = f4 i) → rbEn f2 f3 f4 a k s → rbEn g2 g3 g4 a k s
  | [], _, _, _, _ => trivial
  | t :: a, k, s, h, e => by
    obtain ⟨h2, h3, h4⟩ := h k (Nat.le_refl _) (by show k < k + (a.length + 1); omega)
    exact ⟨h2.trans e.1, h3.trans e.2.1, h4.trans e.2.2.1, rbEn_u (fun i q1 q2 => h i (by omega) (by show i < k + (a.length + 1); omega)) e.2.2.2⟩
def rbTs (n : Nat) (B : Nat → Nat) (R0 SR : zRS) (pos : Nat) (cl : List rbQc) : Prop := rbRd n B SR SR pos (rbTks cl) ∧ SR.2 0 = R0.2 0 ∧ SR.1 8 = nI cl.length ∧ rbEn (SR.2 2) (SR.2 3) (SR.2 4) cl 0 0
theorem rb_chr : ∀ x : Nat, x < 4 → f_J0_charAt_5068e 0 ((4 : Int32) * nI x) = some (nI ((pWl x).getD 0 0)) ∧ f_J0_charAt_5068e 0 ((4 : Int32) * nI x + 1) = some (nI ((pWl x).getD 1 0)) ∧ f_J0_charAt_5068e 0 ((4 : Int32) * nI x + 2) = some (nI ((pWl x).getD 2 0)) ∧ f_J0_charAt_5068e 0 ((4 : Int32) * nI x + 3) = some (nI ((pWl x).getD 3 0)) := by
  intro x hx
  have : x = 0 ∨ x = 1 ∨ x = 2 ∨ x = 3 := by omega
  rcases this with rfl | rfl | rfl | rfl <;> exact ⟨rfl, rfl, rfl, rfl⟩
section RBTS
variable {N n pos : Nat} {B : Nat → Nat} {R0 SR : zRS} {cs : List rbTk} {cl : List rbQc}
theorem pLit_ok : ∀ (l : List Nat) (pos : Nat), (∀ c, c ∈ l → c < 128) → pos ≤ n → pos ≤ (pLit (rbBy n B) l pos).2 ∧ (pLit (rbBy n B) l pos).2 ≤ n ∧ ((pLit (rbBy n B) l pos).1 = true → (pLit (rbBy n B) l pos).2 = pos + l.length)
  | [], pos, _, hp => ⟨Nat.le_refl _, hp, fun _ => rfl⟩
  | c :: t, pos, hc, hp => by
    show pos ≤ (if rbBy n B pos = c then pLit (rbBy n B) t (pos + 1) else (false, pos)).2 ∧ (if rbBy n B pos = c then pLit (rbBy n B) t (pos + 1) else (false, pos)).2 ≤ n ∧ ((if rbBy n B pos = c then pLit (rbBy n B) t (pos + 1) else (false, pos)).1 = true → (if rbBy n B pos = c then pLit (rbBy n B) t (pos + 1) else (false, pos)).2 = pos + (t.length + 1))
    by_cases e : rbBy n B pos = c
    · have h1 := rbBy_lt (show rbBy n B pos < 128 by have := hc c (List.mem_cons_self ..); omega)
      obtain ⟨q1, q2, q3⟩ := pLit_ok t (pos + 1) (fun c m => hc c (List.mem_cons_of_mem _ m)) h1
      rw [if_pos e]
      exact ⟨by omega, q2, fun h => by have := q3 h; omega⟩
    · rw [if_neg e]
      exact ⟨Nat.le_refl _, hp, fun h => (by cases h)⟩
theorem pWl_lt : ∀ w : Nat, ∀ c, c ∈ pWl w → c < 128 := by
  intro w c h
  unfold pWl at h
  repeat' split at h
  all_goals (simp at h; omega)
theorem pWl_len (w : Nat) : (pWl w).length = 4 := by
  unfold pWl
  repeat' split
  all_goals rfl
theorem pWi_lt (c : Nat) : pWi c < 4 := by
  unfold pWi
  repeat' split
  all_goals omega
theorem pC2_ok {w pos : Nat} (hw : w < 4) (hp : pos ≤ n) : ((pC2 (rbBy n B) w pos).1 = true → pos < (pC2 (rbBy n B) w pos).2.1 ∧ (pC2 (rbBy n B) w pos).2.1 ≤ n ∧ (pC2 (rbBy n B) w pos).2.2.1 = w ∧ (pC2 (rbBy n B) w pos).2.2.2.1 < 100 ∧ (pC2 (rbBy n B) w pos).2.2.2.2.length ≤ (pC2 (rbBy n B) w pos).2.1 - pos ∧ (w < 2 → rbWf (pC2 (rbBy n B) w pos).2.2.2.2 0 1)) ∧ ((pC2 (rbBy n B) w pos).1 = false → pos ≤ (pC2 (rbBy n B) w pos).2.1 ∧ (pC2 (rbBy n B) w pos).2.1 ≤ n) := by
  obtain ⟨n1, n2⟩ := pNum_ok (B := B) hp
  unfold pC2
  cases q : (pNum (rbBy n B) pos).1 with
  | true =>
    obtain ⟨m1, m2, m3⟩ := n1 q
    rw [if_pos rfl]
    by_cases d : 2 ≤ w
    · rw [if_pos d]
      exact ⟨fun _ => ⟨m1, m2, rfl, m3, Nat.zero_le _, fun h => by omega⟩, fun h => (by cases h)⟩
    · rw [if_neg d]
      by_cases e : rbBy n B (pNum (rbBy n B) pos).2.1 = 32
      · have h1 := rbBy_lt (show rbBy n B (pNum (rbBy n B) pos).2.1 < 128 by omega)
        obtain ⟨q1, q2⟩ := pE_ok (B := B) (fun p hp => pF_ok (B := B) 4 p hp) (show (pNum (rbBy n B) pos).2.1 + 1 ≤ n from h1)
        rw [if_pos e]
        refine ⟨fun h => ?_, fun h => ?_⟩
        · obtain ⟨a, b, c, d⟩ := q1 h
          exact ⟨by show pos < (pE (pF (rbBy n B) 4) (rbBy n B) ((pNum (rbBy n B) pos).2.1 + 1)).2.1; omega, b, rfl, m3, by show (pE (pF (rbBy n B) 4) (rbBy n B) ((pNum (rbBy n B) pos).2.1 + 1)).2.2.length ≤ (pE (pF (rbBy n B) 4) (rbBy n B) ((pNum (rbBy n B) pos).2.1 + 1)).2.1 - pos; omega, fun _ => d 0 (by omega)⟩
        · obtain ⟨a, b⟩ := q2 h
          exact ⟨by show pos ≤ (pE (pF (rbBy n B) 4) (rbBy n B) ((pNum (rbBy n B) pos).2.1 + 1)).2.1; omega, b⟩
      · rw [if_neg e]
        exact ⟨fun h => (by cases h), fun _ => ⟨by show pos ≤ (pNum (rbBy n B) pos).2.1; omega, m2⟩⟩
  | false =>
    have m1 := n2 q
    rw [if_neg (by decide)]
    exact ⟨fun h => (by cases h), fun _ => ⟨by show pos ≤ (pNum (rbBy n B) pos).2.1; omega, by show (pNum (rbBy n B) pos).2.1 ≤ n; omega⟩⟩
theorem pC_ok {pos : Nat} (hp : pos ≤ n) : ((pC (rbBy n B) pos).1 = true → pos < (pC (rbBy n B) pos).2.1 ∧ (pC (rbBy n B) pos).2.1 ≤ n ∧ (pC (rbBy n B) pos).2.2.1 < 4 ∧ (pC (rbBy n B) pos).2.2.2.1 < 100 ∧ (pC (rbBy n B) pos).2.2.2.2.length ≤ (pC (rbBy n B) pos).2.1 - pos ∧ ((pC (rbBy n B) pos).2.2.1 < 2 → rbWf (pC (rbBy n B) pos).2.2.2.2 0 1)) ∧ ((pC (rbBy n B) pos).1 = false → pos ≤ (pC (rbBy n B) pos).2.1 ∧ (pC (rbBy n B) pos).2.1 ≤ n) := by
  have hw := pWi_lt (rbBy n B pos)
  obtain ⟨l1, l2, l3⟩ := pLit_ok (n := n) (B := B) (pWl (pWi (rbBy n B pos))) pos (pWl_lt _) hp
  unfold pC
  cases q : (pLit (rbBy n B) (pWl (pWi (rbBy n B pos))) pos).1 with
  | true =>
    rw [if_pos rfl]
    by_cases e : rbBy n B (pLit (rbBy n B) (pWl (pWi (rbBy n B pos))) pos).2 = 32
    · have h1 := rbBy_lt (show rbBy n B (pLit (rbBy n B) (pWl (pWi (rbBy n B pos))) pos).2 < 128 by omega)
      obtain ⟨q1, q2⟩ := pC2_ok (B := B) hw (show (pLit (rbBy n B) (pWl (pWi (rbBy n B pos))) pos).2 + 1 ≤ n from h1)
      rw [if_pos e]
      refine ⟨fun h => ?_, fun h => ?_⟩
      · obtain ⟨a, b, c, d, e, f⟩ := q1 h
        exact ⟨by omega, b, by rw [c]; exact hw, d, by omega, fun h => f (by rw [c] at h; exact h)⟩
      · obtain ⟨a, b⟩ := q2 h
        exact ⟨by omega, b⟩
    · rw [if_neg e]
      exact ⟨fun h => (by cases h), fun _ => ⟨l1, l2⟩⟩
  | false =>
    rw [if_neg (by decide)]
    exact ⟨fun h => (by cases h), fun _ => ⟨l1, l2⟩⟩
theorem rb_wx (hT : rbTb n B R0) (h : rbRd n B R0 SR pos cs) (hp : pos ≤ n) {x : Nat} (hx : x < 4) (hb : rbBy n B pos = (pWl x).getD 0 0) (m : Nat) : ∃ SR', f_X5_word_l2 N (m + 1) SR (nI x) = some (if (pLit (rbBy n B) (pWl x) pos).1 then nI x else -1, SR') ∧ rbRd n B R0 SR' (pLit (rbBy n B) (pWl x) pos).2 cs := by
  obtain ⟨z0, z1, z2, z3⟩ := rb_chr x hx
  have hw : ∃ c0 c1 c2 c3, pWl x = [c0, c1, c2, c3] ∧ c0 < 128 ∧ c1 < 128 ∧ c2 < 128 ∧ c3 < 128 := by
    unfold pWl
    repeat' split
    all_goals exact ⟨_, _, _, _, rfl, by decide, by decide, by decide, by decide⟩
  obtain ⟨c0, c1, c2, c3, hw, w0, w1, w2, w3⟩ := hw
  rw [hw] at z0 z1 z2 z3 hb ⊢
  have z0 : f_J0_charAt_5068e 0 ((4 : Int32) * nI x) = some (nI c0) := z0
  have z1 : f_J0_charAt_5068e 0 ((4 : Int32) * nI x + 1) = some (nI c1) := z1
  have z2 : f_J0_charAt_5068e 0 ((4 : Int32) * nI x + 2) = some (nI c2) := z2
  have z3 : f_J0_charAt_5068e 0 ((4 : Int32) * nI x + 3) = some (nI c3) := z3
  have hb : rbBy n B pos = c0 := hb
  have p1 := rbBy_lt (show rbBy n B pos < 128 by omega)
  rw [s_X5_word_l2]
  show ∃ SR', kB _ _ _ = _ ∧ _
  rw [kB_n (show ¬ (3 : Int32) < nI x from nI_nlt (a := 3) (by omega) (by decide))]
  simp only [kL_p]
  rw [z0, kC_p, rb_takes hT h hp w0, if_pos hb, kD_p, kB_10, z1, kC_p, rb_takes hT h.go p1 w1]
  have e0 : pLit (rbBy n B) [c0, c1, c2, c3] pos = pLit (rbBy n B) [c1, c2, c3] (pos + 1) := if_pos hb
  rw [e0]
  by_cases d1 : rbBy n B (pos + 1) = c1
  · have p2 := rbBy_lt (show rbBy n B (pos + 1) < 128 by omega)
    have e1 : pLit (rbBy n B) [c1, c2, c3] (pos + 1) = pLit (rbBy n B) [c2, c3] (pos + 1 + 1) := if_pos d1
    rw [if_pos d1, kD_p, kB_10, z2, kC_p, rb_takes hT h.go.go p2 w2, e1]
    by_cases d2 : rbBy n B (pos + 1 + 1) = c2
    · have p3 := rbBy_lt (show rbBy n B (pos + 1 + 1) < 128 by omega)
      have e2 : pLit (rbBy n B) [c2, c3] (pos + 1 + 1) = pLit (rbBy n B) [c3] (pos + 1 + 1 + 1) := if_pos d2
      rw [if_pos d2, kD_p, kB_10, z3, kC_p, rb_takes hT h.go.go.go p3 w3, e2]
      by_cases d3 : rbBy n B (pos + 1 + 1 + 1) = c3
      · have e3 : pLit (rbBy n B) [c3] (pos + 1 + 1 + 1) = (true, pos + 1 + 1 + 1 + 1) := if_pos d3
        rw [if_pos d3, kD_p, kB_10, e3]
        unfold f_X5_word_b78
        rw [kB_10]
        exact ⟨_, rfl, h.go.go.go.go⟩
      · have e3 : pLit (rbBy n B) [c3] (pos + 1 + 1 + 1) = (false, pos + 1 + 1 + 1) := if_neg d3
        rw [if_neg d3, kD_p, kB_00, e3]
        unfold f_X5_word_b77 f_X5_word_b78
        rw [kB_00]
        exact ⟨_, rfl, h.go.go.go⟩
    · have e2 : pLit (rbBy n B) [c2, c3] (pos + 1 + 1) = (false, pos + 1 + 1) := if_neg d2
      rw [if_neg d2, kD_p, kB_00, e2]
      unfold f_X5_word_b77 f_X5_word_b78
      rw [kB_00]
      exact ⟨_, rfl, h.go.go⟩
  · have e1 : pLit (rbBy n B) [c1, c2, c3] (pos + 1) = (false, pos + 1) := if_neg d1
    rw [if_neg d1, kD_p, kB_00, e1]
    unfold f_X5_word_b77 f_X5_word_b78
    rw [kB_00]
    exact ⟨_, rfl, h.go⟩
theorem rb_ws (hT : rbTb n B R0) (h : rbRd n B R0 SR pos cs) (hp : pos ≤ n) {x : Nat} (hx : x < 4) (hb : ¬ rbBy n B pos = (pWl x).getD 0 0) (m : Nat) : f_X5_word_l2 N (m + 1) SR (nI x) = f_X5_word_l2 N m SR (nI (x + 1)) := by
  obtain ⟨z0, -⟩ := rb_chr x hx
  have h1 : (pWl x).getD 0 0 < 128 := by
    unfold pWl
    repeat' split
    all_goals decide
  rw [s_X5_word_l2]
  show kB _ _ _ = _
  rw [kB_n (show ¬ (3 : Int32) < nI x from nI_nlt (a := 3) (by omega) (by decide)), kL_p, z0, kC_p, rb_takes hT h hp h1, if_neg hb, kD_p, kB_00, kL_p, nI_1]
theorem rb_word (hN : 201 ≤ N) (hT : rbTb n B R0) (h : rbRd n B R0 SR pos cs) (hp : pos ≤ n) : ∃ SR', f_X5_word N SR = some (if (pLit (rbBy n B) (pWl (pWi (rbBy n B pos))) pos).1 then nI (pWi (rbBy n B pos)) else -1, SR') ∧ rbRd n B R0 SR' (pLit (rbBy n B) (pWl (pWi (rbBy n B pos))) pos).2 cs := by
  obtain ⟨M, rfl⟩ : ∃ M, N = M + 1 + 1 + 1 + 1 + 1 := ⟨N - 5, by omega⟩
  unfold f_X5_word
  by_cases c0 : rbBy n B pos = 99
  · rw [show pWi (rbBy n B pos) = 0 by rw [c0]; rfl]
    exact rb_wx hT h hp (x := 0) (by decide) c0 _
  · have s0 := rb_ws (N := M + 1 + 1 + 1 + 1 + 1) hT h hp (x := 0) (by decide) c0 (M + 1 + 1 + 1 + 1)
    rw [show (0 : Int32) = nI 0 from rfl, s0]
    by_cases c1 : rbBy n B pos = 102
    · rw [show pWi (rbBy n B pos) = 1 by rw [c1]; rfl]
      exact rb_wx hT h hp (x := 1) (by decide) c1 _
    · have s1 := rb_ws (N := M + 1 + 1 + 1 + 1 + 1) hT h hp (x := 1) (by decide) c1 (M + 1 + 1 + 1)
      rw [s1]
      by_cases c2 : rbBy n B pos = 108
      · rw [show pWi (rbBy n B pos) = 2 by rw [c2]; rfl]
        exact rb_wx hT h hp (x := 2) (by decide) c2 _
      · have s2 := rb_ws (N := M + 1 + 1 + 1 + 1 + 1) hT h hp (x := 2) (by decide) c2 (M + 1 + 1)
        have e : pWi (rbBy n B pos) = 3 := by unfold pWi; rw [if_neg c0, if_neg c1, if_neg c2]
        rw [s2, e]
        by_cases c3 : rbBy n B pos = 100
        · exact rb_wx hT h hp (x := 3) (by decide) c3 _
        · have s3 := rb_ws (N := M + 1 + 1 + 1 + 1 + 1) hT h hp (x := 3) (by decide) c3 (M + 1)
          have e3 : pLit (rbBy n B) (pWl 3) pos = (false, pos) := if_neg c3
          rw [s3, e3, s_X5_word_l2]
          show ∃ SR', kB _ _ _ = _ ∧ _
          rw [kB_p (by decide)]
          exact ⟨_, rfl, h⟩
theorem rb_b59 {R1 : zRS} (h1 : rbTs n B R0 R1 pos cl) {p2 : Nat} {ts : List rbTk} (h : rbRd n B R1 SR p2 (rbTks cl ++ ts)) (hk : cl.length < 10) (w m : Nat) : ∃ SR', f_X5_clause_b59 N SR (nI w) (nI m) = some (1, SR') ∧ rbTs n B R0 SR' p2 (cl ++ [(w, m, ts)]) := by
  obtain ⟨-, g0, g8, gE⟩ := h1
  obtain ⟨a, b, c, d, e, f, g, i, j⟩ := h
  unfold f_X5_clause_b59
  have j8 : SR.1 8 = nI cl.length := by rw [j, g8]
  rw [j8, kB_p (show nI cl.length < (10 : Int32) from nI_lt (b := 10) hk (by decide)), kO_p (nI_in hk (by decide)), nI_clamp (by omega)]
  simp only [kL_p]
  have s1 : ∀ (k : Nat) (f : Nat → Int32), (rSA SR k f).1 8 = nI cl.length := fun k f => j8
  have s2 : ∀ (k k' : Nat) (f f' : Nat → Int32), (rSA (rSA SR k f) k' f').1 8 = nI cl.length := fun k k' f f' => j8
  rw [s1, s2, kO_p (nI_in hk (by decide)), kO_p (nI_in hk (by decide)), nI_clamp (by omega), nI_1]
  refine ⟨_, rfl, ⟨a, b, ?_, ?_, rfl, rfl, rfl, rfl, rfl⟩, ?_, ?_, ?_⟩
  · rw [rbTks_a, rbTks_1]
    exact c
  · rw [rbTks_a, rbTks_1]
    exact d
  · show SR.2 0 = R0.2 0
    rw [e, g0]
  · rw [List.length_append]
    rfl
  · rw [rbEn_app]
    refine ⟨rbEn_u (f2 := R1.2 2) (f3 := R1.2 3) (f4 := R1.2 4) (fun q q1 q2 => ⟨?_, ?_, ?_⟩) gE, ?_, ?_, ?_, trivial⟩
    · show upd (SR.2 2) cl.length (nI w) q = R1.2 2 q
      rw [pk_un (by omega), f]
    · show upd (SR.2 3) cl.length (nI m) q = R1.2 3 q
      rw [pk_un (by omega), g]
    · show upd (SR.2 4) cl.length (SR.1 7) q = R1.2 4 q
      rw [pk_un (by omega), i]
    · show upd (SR.2 2) cl.length (nI w) (0 + cl.length) = nI w
      rw [Nat.zero_add, pk_us]
    · show upd (SR.2 3) cl.length (nI m) (0 + cl.length) = nI m
      rw [Nat.zero_add, pk_us]
    · show upd (SR.2 4) cl.length (SR.1 7) (0 + cl.length) = nI (0 + (rbTks cl).length + ts.length)
      rw [Nat.zero_add, pk_us, c, List.length_append, Nat.zero_add]
theorem rb_clause (hN : 201 ≤ N) (hT : rbTb n B R0) (h : rbTs n B R0 SR pos cl) (hp : pos ≤ n) (hl : (rbTks cl).length ≤ pos) (hk : cl.length < 10) : ∃ SR', f_X5_clause N SR = some (if (pC (rbBy n B) pos).1 then 1 else 0, SR') ∧ SR'.1 6 = nI (pC (rbBy n B) pos).2.1 ∧ ((pC (rbBy n B) pos).1 = true → rbTs n B R0 SR' (pC (rbBy n B) pos).2.1 (cl ++ [(pC (rbBy n B) pos).2.2])) := by
  have hT1 : rbTb n B SR := ⟨hT.1, fun i hi => by rw [h.2.1]; exact hT.2 i hi⟩
  obtain ⟨S1, q1, q2⟩ := rb_word hN hT1 h.1 hp
  obtain ⟨l1, l2, l3⟩ := pLit_ok (n := n) (B := B) (pWl (pWi (rbBy n B pos))) pos (pWl_lt _) hp
  have hw := pWi_lt (rbBy n B pos)
  unfold f_X5_clause pC
  rw [q1, kD_p]
  cases q : (pLit (rbBy n B) (pWl (pWi (rbBy n B pos))) pos).1 with
  | false =>
    rw [if_neg Bool.false_ne_true, if_neg Bool.false_ne_true, kB_p (by decide)]
    exact ⟨S1, rfl, q2.2.1, fun q => (by cases q)⟩
  | true =>
    rw [if_pos (rfl : true = true), if_pos (rfl : true = true), kB_n (nI_pos (by omega)), show (32 : Int32) = nI 32 from rfl, rb_takes hT1 q2 l2 (by decide)]
    by_cases e : rbBy n B (pLit (rbBy n B) (pWl (pWi (rbBy n B pos))) pos).2 = 32
    · have p1 := rbBy_lt (show rbBy n B (pLit (rbBy n B) (pWl (pWi (rbBy n B pos))) pos).2 < 128 by omega)
      obtain ⟨n1, n2⟩ := pNum_ok (B := B) (show (pLit (rbBy n B) (pWl (pWi (rbBy n B pos))) pos).2 + 1 ≤ n from p1)
      rw [if_pos e, if_pos e, kD_p, kB_10, rb_number hN hT1 q2.go p1, kD_p]
      unfold pC2
      cases r : (pNum (rbBy n B) ((pLit (rbBy n B) (pWl (pWi (rbBy n B pos))) pos).2 + 1)).1 with
      | false =>
        have m1 := n2 r
        rw [if_neg Bool.false_ne_true, if_neg Bool.false_ne_true, if_neg Bool.false_ne_true, kB_n (by decide)]
        exact ⟨_, rfl, by rw [m1]; exact q2.go.2.1, fun q => (by cases q)⟩
      | true =>
        obtain ⟨m1, m2, m3⟩ := n1 r
        rw [if_pos (rfl : true = true), if_pos (rfl : true = true), if_pos (rfl : true = true), kB_p (nI_pos' (by omega))]
        have hr : rbRd n B SR (rSI (rSI S1 6 (nI ((pLit (rbBy n B) (pWl (pWi (rbBy n B pos))) pos).2 + 1))) 6 (nI (pNum (rbBy n B) ((pLit (rbBy n B) (pWl (pWi (rbBy n B pos))) pos).2 + 1)).2.1)) (pNum (rbBy n B) ((pLit (rbBy n B) (pWl (pWi (rbBy n B pos))) pos).2 + 1)).2.1 (rbTks cl) := by
          obtain ⟨a, b, c, d, e, f, g, i, j⟩ := q2
          exact ⟨a, rSI_s _ _ _, c, d, e, f, g, i, j⟩
        by_cases w2 : 2 ≤ pWi (rbBy n B pos)
        · have c0 : ¬ nI (pWi (rbBy n B pos)) = 0 := fun h => absurd ((nI_eq (b := 0) (by omega) (by decide)).mp h) (by omega)
          have c1 : ¬ nI (pWi (rbBy n B pos)) = 1 := fun h => absurd ((nI_eq (b := 1) (by omega) (by decide)).mp h) (by omega)
          rw [if_pos w2, kB_n c0, kB_n c1]
          obtain ⟨S2, u1, u2⟩ := rb_b59 (N := N) h (ts := []) (by rw [List.append_nil]; exact hr) hk (pWi (rbBy n B pos)) (pNum (rbBy n B) ((pLit (rbBy n B) (pWl (pWi (rbBy n B pos))) pos).2 + 1)).2.2
          exact ⟨S2, u1, u2.1.2.1, fun _ => u2⟩
        · have c01 : (∀ y z : Option (Int32 × zRS), kB (nI (pWi (rbBy n B pos)) = 0) y (kB (nI (pWi (rbBy n B pos)) = 1) y z) = y) := by
            intro y z
            have : pWi (rbBy n B pos) = 0 ∨ pWi (rbBy n B pos) = 1 := by omega
            rcases this with h | h
            · rw [h, kB_p (show nI 0 = 0 from rfl)]
            · rw [h, kB_n (by decide), kB_p (show nI 1 = 1 from rfl)]
          rw [if_neg w2, c01]
          unfold f_X5_clause_b40
          rw [show (32 : Int32) = nI 32 from rfl, rb_takes hT1 hr m2 (by decide)]
          by_cases e2 : rbBy n B (pNum (rbBy n B) ((pLit (rbBy n B) (pWl (pWi (rbBy n B pos))) pos).2 + 1)).2.1 = 32
          · have p2 := rbBy_lt (show rbBy n B (pNum (rbBy n B) ((pLit (rbBy n B) (pWl (pWi (rbBy n B pos))) pos).2 + 1)).2.1 < 128 by omega)
            obtain ⟨S3, u1, u2, u3⟩ := rb_ei0 hN hT1 hr.go p2 (by omega)
            rw [show nI 0 = (0 : Int32) from rfl] at u1
            rw [if_pos e2, if_pos e2, kD_p, kB_10, u1, kD_p]
            cases v : (pE (pF (rbBy n B) 4) (rbBy n B) ((pNum (rbBy n B) ((pLit (rbBy n B) (pWl (pWi (rbBy n B pos))) pos).2 + 1)).2.1 + 1)).1 with
            | false =>
              rw [if_neg Bool.false_ne_true, kB_00]
              exact ⟨S3, rfl, u2, fun q => (by cases q)⟩
            | true =>
              rw [if_pos (rfl : true = true), kB_10]
              obtain ⟨S4, v1, v2⟩ := rb_b59 (N := N) h (u3 v) hk (pWi (rbBy n B pos)) (pNum (rbBy n B) ((pLit (rbBy n B) (pWl (pWi (rbBy n B pos))) pos).2 + 1)).2.2
              exact ⟨S4, v1, v2.1.2.1, fun _ => v2⟩
          · rw [if_neg e2, if_neg e2, kD_p, kB_00]
            exact ⟨_, rfl, rSI_s _ _ _, fun q => (by cases q)⟩
    · rw [if_neg e, if_neg e, kD_p, kB_00]
      exact ⟨S1, rfl, q2.2.1, fun q => (by cases q)⟩
def pTy (b : Nat → Nat) (n f pos : Nat) (cl : List rbQc) : Bool × Nat × List rbQc := if pos = n then (true, pos, cl) else if f = 0 then (false, pos, []) else if b pos = 59 then pTx b n f (pos + 1) cl else (false, pos, [])
theorem pTx_s {b : Nat → Nat} {n f pos : Nat} {cl : List rbQc} : pTx b n (f + 1) pos cl = if (pC b pos).1 then pTy b n f (pC b pos).2.1 (cl ++ [(pC b pos).2.2]) else (false, (pC b pos).2.1, []) := rfl
theorem rb_rl (hN : 201 ≤ N) (hT : rbTb n B R0) : ∀ (f x m : Nat) (pos : Nat) (cl : List rbQc) (SR : zRS), f + x = 10 → x = cl.length → f + 1 < m → rbTs n B R0 SR pos cl → pos ≤ n → (rbTks cl).length ≤ pos → ∃ SR', f_X5_reads_l22 N m SR 1 (nI x) = some (if (pTy (rbBy n B) n f pos cl).1 then 1 else 0, SR') ∧ SR'.1 6 = nI (pTy (rbBy n B) n f pos cl).2.1 ∧ ((pTy (rbBy n B) n f pos cl).1 = true → rbTs n B R0 SR' (pTy (rbBy n B) n f pos cl).2.1 (pTy (rbBy n B) n f pos cl).2.2)
  | f, x, 0, pos, cl, SR, _, _, h, _, _, _ => by omega
  | f, x, m + 1, pos, cl, SR, hx, hxl, hm, h, hp, hl => by
    have hn := hT.1
    have hT1 : rbTb n B SR := ⟨hT.1, fun i hi => by rw [h.2.1]; exact hT.2 i hi⟩
    have hb : f_X5_reads_b52 N SR 1 = some (if pos = n then 1 else 0, SR) := by
      unfold f_X5_reads_b52
      rw [kB_10, h.1.1, h.1.2.1]
      by_cases e : pos = n
      · rw [kB_p (by rw [e]), if_pos e]
      · rw [kB_n (fun q => e ((nI_eq (by omega) (by omega)).mp q)), if_neg e]
    rw [s_X5_reads_l22]
    show ∃ SR', kB _ _ _ = _ ∧ _
    unfold pTy
    by_cases f0 : f = 0
    · rw [kB_p (show (10 : Int32) ≤ nI x from nI_le (a := 10) (by omega) (by omega)), hb]
      by_cases e : pos = n
      · rw [if_pos e, if_pos e]
        exact ⟨SR, rfl, h.1.2.1, fun _ => h⟩
      · rw [if_neg e, if_neg e, if_pos f0]
        exact ⟨SR, rfl, h.1.2.1, fun q => (by cases q)⟩
    · rw [kB_n (show ¬ (10 : Int32) ≤ nI x from nI_ge (b := 10) (by omega) (by decide)), kB_10, show (59 : Int32) = nI 59 from rfl, rb_takes hT1 h.1 hp (by decide)]
      by_cases c : rbBy n B pos = 59
      · have p1 := rbBy_lt (show rbBy n B pos < 128 by omega)
        have hg : rbTs n B R0 (rSI SR 6 (nI (pos + 1))) (pos + 1) cl := ⟨⟨h.1.1, rSI_s _ _ _, h.1.2.2.1, h.1.2.2.2.1, rfl, rfl, rfl, rfl, rfl⟩, h.2.1, h.2.2.1, h.2.2.2⟩
        obtain ⟨S2, u1, u2, u3⟩ := rb_clause hN hT hg p1 (by omega) (by omega)
        rw [if_pos c, kD_p, kB_10, u1, kD_p, kL_p, nI_1, if_neg (show ¬ pos = n by omega), if_neg f0, if_pos c]
        obtain ⟨f, rfl⟩ : ∃ g, f = g + 1 := ⟨f - 1, by omega⟩
        obtain ⟨k1, k2⟩ := pC_ok (B := B) (show pos + 1 ≤ n from p1)
        rw [pTx_s]
        cases v : (pC (rbBy n B) (pos + 1)).1 with
        | true =>
          obtain ⟨a, b, c, d, e, -⟩ := k1 v
          rw [if_pos (rfl : true = true), if_pos (rfl : true = true)]
          refine rb_rl hN hT f (x + 1) m _ _ S2 (by omega) ?_ (by omega) (u3 v) b ?_
          · rw [List.length_append, hxl]
            rfl
          · rw [rbTks_a, rbTks_1, List.length_append]
            omega
        | false =>
          rw [if_neg Bool.false_ne_true, if_neg Bool.false_ne_true]
          obtain ⟨m, rfl⟩ : ∃ g, m = g + 1 := ⟨m - 1, by omega⟩
          rw [s_X5_reads_l22]
          show ∃ SR', kB _ _ (kB _ _ _) = _ ∧ _
          unfold f_X5_reads_b52
          rw [kB_00, kB_00]
          refine ⟨S2, ?_, u2, fun q => (by cases q)⟩
          by_cases w : (10 : Int32) ≤ nI (x + 1)
          · rw [kB_p w]
            rfl
          · rw [kB_n w]
            rfl
      · rw [if_neg c, kD_p, kB_00, hb]
        by_cases e : pos = n
        · rw [if_pos e, if_pos e]
          exact ⟨SR, rfl, h.1.2.1, fun _ => h⟩
        · rw [if_neg e, if_neg e, if_neg f0, if_neg c]
          exact ⟨SR, rfl, h.1.2.1, fun q => (by cases q)⟩
theorem rb_reads (hN : 201 ≤ N) (hT : rbTb n B SR) (h5 : SR.1 5 = nI n) : ∃ SR', f_X5_reads N SR = some (if (pTx (rbBy n B) n 10 0 []).1 then 1 else 0, SR') ∧ SR'.1 6 = nI (pTx (rbBy n B) n 10 0 []).2.1 ∧ ((pTx (rbBy n B) n 10 0 []).1 = true → rbTs n B SR SR' (pTx (rbBy n B) n 10 0 []).2.1 (pTx (rbBy n B) n 10 0 []).2.2) := by
  have h0 : rbTs n B SR (rSI (rSI (rSI SR 6 0) 7 0) 8 0) 0 [] := ⟨⟨h5, rfl, rfl, trivial, rfl, rfl, rfl, rfl, rfl⟩, rfl, rfl, trivial⟩
  obtain ⟨S2, u1, u2, u3⟩ := rb_clause hN hT h0 (Nat.zero_le _) (Nat.zero_le _) (by decide)
  obtain ⟨k1, k2⟩ := pC_ok (B := B) (Nat.zero_le n)
  unfold f_X5_reads
  simp only [kL_p]
  rw [u1, kD_p, pTx_s]
  cases v : (pC (rbBy n B) 0).1 with
  | true =>
    obtain ⟨a, b, c, d, e, -⟩ := k1 v
    rw [if_pos (rfl : true = true), if_pos (rfl : true = true)]
    refine rb_rl hN hT 9 1 N _ _ S2 (by omega) ?_ (by omega) (u3 v) b ?_
    · rfl
    · rw [rbTks_a, rbTks_1, List.length_append]
      show 0 + _ ≤ _
      omega
  | false =>
    rw [if_neg Bool.false_ne_true, if_neg Bool.false_ne_true]
    obtain ⟨m, rfl⟩ : ∃ g, N = g + 1 := ⟨N - 1, by omega⟩
    rw [s_X5_reads_l22]
    show ∃ SR', kB _ _ (kB _ _ _) = _ ∧ _
    unfold f_X5_reads_b52
    rw [kB_n (by decide), kB_00]
    exact ⟨S2, rfl, u2, fun q => (by cases q)⟩
end RBTS
