/-! B: THE TEXT, read as numbers -/
abbrev rbPr : Type := Bool × Nat × List rbTk
def rbDg (c : Nat) : Prop := 48 ≤ c ∧ c ≤ 57
def pNum (b : Nat → Nat) (pos : Nat) : Bool × Nat × Nat := if 48 ≤ b pos ∧ b pos ≤ 57 then (if 48 ≤ b (pos + 1) ∧ b (pos + 1) ≤ 57 then (true, pos + 2, 10 * (b pos - 48) + (b (pos + 1) - 48)) else (true, pos + 1, b pos - 48)) else (false, pos, 0)
def pLet (c : Nat) : Option Nat := if c = 112 then some 0 else if c = 107 then some 1 else if c = 116 then some 2 else if c = 99 then some 3 else if c = 110 then some 4 else if c = 104 then some 5 else none
def pTest (b : Nat → Nat) (pos : Nat) : rbPr := match pLet (b pos) with
  | none => (false, pos, [])
  | some l => if 60 ≤ b (pos + 1) ∧ b (pos + 1) ≤ 62 then (if (pNum b (pos + 2)).1 then (true, (pNum b (pos + 2)).2.1, [(0, l, b (pos + 1) - 60, (pNum b (pos + 2)).2.2)]) else (false, (pNum b (pos + 2)).2.1, [])) else (false, pos + 1, [])
def pTl (F : Nat → rbPr) (b : Nat → Nat) : Nat → Nat → List rbTk → rbPr
  | 0, pos, ts => (true, pos, ts)
  | f + 1, pos, ts => if b pos = 38 then (if (F (pos + 1)).1 then pTl F b f (F (pos + 1)).2.1 (ts ++ (F (pos + 1)).2.2 ++ [(2, 0, 0, 0)]) else (false, (F (pos + 1)).2.1, [])) else (true, pos, ts)
def pT (F : Nat → rbPr) (b : Nat → Nat) (pos : Nat) : rbPr := if (F pos).1 then pTl F b 100 (F pos).2.1 (F pos).2.2 else (false, (F pos).2.1, [])
def pEl (F : Nat → rbPr) (b : Nat → Nat) : Nat → Nat → List rbTk → rbPr
  | 0, pos, ts => (true, pos, ts)
  | f + 1, pos, ts => if b pos = 124 then (if (pT F b (pos + 1)).1 then pEl F b f (pT F b (pos + 1)).2.1 (ts ++ (pT F b (pos + 1)).2.2 ++ [(3, 0, 0, 0)]) else (false, (pT F b (pos + 1)).2.1, [])) else (true, pos, ts)
def pE (F : Nat → rbPr) (b : Nat → Nat) (pos : Nat) : rbPr := if (pT F b pos).1 then pEl F b 100 (pT F b pos).2.1 (pT F b pos).2.2 else (false, (pT F b pos).2.1, [])
def pF (b : Nat → Nat) : Nat → Nat → rbPr
  | 0, pos => pTest b pos
  | k + 1, pos => if b pos = 33 then (if (pF b k (pos + 1)).1 then (true, (pF b k (pos + 1)).2.1, (pF b k (pos + 1)).2.2 ++ [(1, 0, 0, 0)]) else (false, (pF b k (pos + 1)).2.1, []))
    else if b pos = 40 then (if (pE (pF b k) b (pos + 1)).1 then (if b (pE (pF b k) b (pos + 1)).2.1 = 41 then (true, (pE (pF b k) b (pos + 1)).2.1 + 1, (pE (pF b k) b (pos + 1)).2.2) else (false, (pE (pF b k) b (pos + 1)).2.1, [])) else (false, (pE (pF b k) b (pos + 1)).2.1, []))
    else pTest b pos
/-- the text's bytes; behind its end none -/
def rbBy (n : Nat) (B : Nat → Nat) : Nat → Nat := fun i => if i < n then B i else 200
/-- what is right of an answer -/
def rbOk (n : Nat) (pos : Nat) (r : rbPr) (H : Nat) : Prop := (r.1 = true → pos < r.2.1 ∧ r.2.1 ≤ n ∧ r.2.2.length ≤ r.2.1 - pos ∧ ∀ h : Nat, h + H ≤ 30 → rbWf r.2.2 h (h + 1)) ∧ (r.1 = false → pos ≤ r.2.1 ∧ r.2.1 ≤ n)
theorem rbWf_app : ∀ {a b : List rbTk} {h h1 h2 : Nat}, rbWf a h h1 → rbWf b h1 h2 → rbWf (a ++ b) h h2
  | [], b, h, h1, h2, ha, hb => by
    have : h = h1 := ha
    subst this
    exact hb
  | t :: ts, b, h, h1, h2, ha, hb => by
    obtain ⟨h0, ha⟩ := ha
    refine ⟨h0, ?_⟩
    rcases ha with ⟨x, y, z⟩ | ⟨x, y, z⟩ | ⟨x, y, z⟩
    · exact Or.inl ⟨x, y, rbWf_app z hb⟩
    · exact Or.inr (Or.inl ⟨x, y, rbWf_app z hb⟩)
    · exact Or.inr (Or.inr ⟨x, y, rbWf_app z hb⟩)
section RBTX
variable {n : Nat} {B : Nat → Nat} {F : Nat → rbPr}
theorem rbBy_lt {i : Nat} (h : rbBy n B i < 128) : i < n := by
  unfold rbBy at h
  split at h
  · assumption
  · omega
theorem pNum_ok {pos : Nat} (hp : pos ≤ n) : ((pNum (rbBy n B) pos).1 = true → pos < (pNum (rbBy n B) pos).2.1 ∧ (pNum (rbBy n B) pos).2.1 ≤ n ∧ (pNum (rbBy n B) pos).2.2 < 100) ∧ ((pNum (rbBy n B) pos).1 = false → (pNum (rbBy n B) pos).2.1 = pos) := by
  unfold pNum
  by_cases c : 48 ≤ rbBy n B pos ∧ rbBy n B pos ≤ 57
  · have h1 := rbBy_lt (show rbBy n B pos < 128 by omega)
    rw [if_pos c]
    by_cases d : 48 ≤ rbBy n B (pos + 1) ∧ rbBy n B (pos + 1) ≤ 57
    · have h2 := rbBy_lt (show rbBy n B (pos + 1) < 128 by omega)
      rw [if_pos d]
      exact ⟨fun _ => ⟨by show pos < pos + 2; omega, h2, by show 10 * (rbBy n B pos - 48) + (rbBy n B (pos + 1) - 48) < 100; omega⟩, fun h => (by cases h)⟩
    · rw [if_neg d]
      exact ⟨fun _ => ⟨by show pos < pos + 1; omega, h1, by show rbBy n B pos - 48 < 100; omega⟩, fun h => (by cases h)⟩
  · rw [if_neg c]
    exact ⟨fun h => (by cases h), fun _ => rfl⟩
theorem pLet_lt {c l : Nat} (h : pLet c = some l) : l < 6 ∧ c < 128 := by
  unfold pLet at h
  repeat' split at h
  all_goals first | (cases h; omega) | cases h
theorem pTest_ok {pos : Nat} (hp : pos ≤ n) : rbOk n pos (pTest (rbBy n B) pos) 1 := by
  unfold pTest
  cases e : pLet (rbBy n B pos) with
  | none => exact ⟨fun h => (by cases h), fun _ => ⟨Nat.le_refl _, hp⟩⟩
  | some l =>
    obtain ⟨l1, l2⟩ := pLet_lt e
    have h1 := rbBy_lt l2
    show rbOk n pos (if 60 ≤ rbBy n B (pos + 1) ∧ rbBy n B (pos + 1) ≤ 62 then _ else _) 1
    by_cases c : 60 ≤ rbBy n B (pos + 1) ∧ rbBy n B (pos + 1) ≤ 62
    · have h2 := rbBy_lt (show rbBy n B (pos + 1) < 128 by omega)
      obtain ⟨n1, n2⟩ := pNum_ok (B := B) (show pos + 2 ≤ n from h2)
      rw [if_pos c]
      cases q : (pNum (rbBy n B) (pos + 2)).1 with
      | true =>
        obtain ⟨m1, m2, m3⟩ := n1 q
        rw [if_pos rfl]
        refine ⟨fun _ => ⟨by show pos < (pNum (rbBy n B) (pos + 2)).2.1; omega, m2, by show 1 ≤ (pNum (rbBy n B) (pos + 2)).2.1 - pos; omega, ?_⟩, fun h => (by cases h)⟩
        intro h hh
        exact ⟨⟨l1, by show rbBy n B (pos + 1) - 60 < 3; omega, m3⟩, Or.inl ⟨rfl, hh, rfl⟩⟩
      | false =>
        have m1 := n2 q
        rw [if_neg (by decide)]
        exact ⟨fun h => (by cases h), fun _ => ⟨by show pos ≤ (pNum (rbBy n B) (pos + 2)).2.1; omega, by show (pNum (rbBy n B) (pos + 2)).2.1 ≤ n; omega⟩⟩
    · rw [if_neg c]
      exact ⟨fun h => (by cases h), fun _ => ⟨by show pos ≤ pos + 1; omega, h1⟩⟩
theorem pTl_ok {H : Nat} (hF : ∀ pos : Nat, pos ≤ n → rbOk n pos (F pos) H) : ∀ (f pos p0 : Nat) (ts : List rbTk), p0 < pos → pos ≤ n → ts.length ≤ pos - p0 → (∀ h : Nat, h + (H + 1) ≤ 30 → rbWf ts h (h + 1)) → rbOk n p0 (pTl F (rbBy n B) f pos ts) (H + 1)
  | 0, pos, p0, ts, h1, h2, h3, h4 => ⟨fun _ => ⟨h1, h2, h3, h4⟩, fun h => (by cases h)⟩
  | f + 1, pos, p0, ts, h1, h2, h3, h4 => by
    show rbOk n p0 (if rbBy n B pos = 38 then _ else _) (H + 1)
    by_cases c : rbBy n B pos = 38
    · have hp := rbBy_lt (show rbBy n B pos < 128 by omega)
      obtain ⟨q1, q2⟩ := hF (pos + 1) hp
      rw [if_pos c]
      cases q : (F (pos + 1)).1 with
      | true =>
        obtain ⟨m1, m2, m3, m4⟩ := q1 q
        rw [if_pos rfl]
        refine pTl_ok hF f _ p0 _ (by omega) m2 ?_ ?_
        · rw [List.length_append, List.length_append]
          show ts.length + (F (pos + 1)).2.2.length + 1 ≤ _
          omega
        · intro h hh
          refine rbWf_app (rbWf_app (h4 h hh) (m4 (h + 1) (by omega))) ?_
          exact ⟨⟨by decide, by decide, by decide⟩, Or.inr (Or.inr ⟨Or.inl rfl, by omega, rfl⟩)⟩
      | false =>
        obtain ⟨m1, m2⟩ := q2 q
        rw [if_neg (by decide)]
        exact ⟨fun h => (by cases h), fun _ => ⟨by show p0 ≤ (F (pos + 1)).2.1; omega, m2⟩⟩
    · rw [if_neg c]
      exact ⟨fun _ => ⟨h1, h2, h3, h4⟩, fun h => (by cases h)⟩
theorem pT_ok {H : Nat} (hF : ∀ pos : Nat, pos ≤ n → rbOk n pos (F pos) H) {pos : Nat} (hp : pos ≤ n) : rbOk n pos (pT F (rbBy n B) pos) (H + 1) := by
  obtain ⟨q1, q2⟩ := hF pos hp
  unfold pT
  cases q : (F pos).1 with
  | true =>
    obtain ⟨m1, m2, m3, m4⟩ := q1 q
    rw [if_pos rfl]
    exact pTl_ok hF 100 _ pos _ m1 m2 m3 (fun h hh => m4 h (by omega))
  | false =>
    rw [if_neg (by decide)]
    exact ⟨fun h => (by cases h), fun _ => q2 q⟩
theorem pEl_ok {H : Nat} (hF : ∀ pos : Nat, pos ≤ n → rbOk n pos (F pos) H) : ∀ (f pos p0 : Nat) (ts : List rbTk), p0 < pos → pos ≤ n → ts.length ≤ pos - p0 → (∀ h : Nat, h + (H + 2) ≤ 30 → rbWf ts h (h + 1)) → rbOk n p0 (pEl F (rbBy n B) f pos ts) (H + 2)
  | 0, pos, p0, ts, h1, h2, h3, h4 => ⟨fun _ => ⟨h1, h2, h3, h4⟩, fun h => (by cases h)⟩
  | f + 1, pos, p0, ts, h1, h2, h3, h4 => by
    show rbOk n p0 (if rbBy n B pos = 124 then _ else _) (H + 2)
    by_cases c : rbBy n B pos = 124
    · have hp := rbBy_lt (show rbBy n B pos < 128 by omega)
      obtain ⟨q1, q2⟩ := pT_ok (B := B) hF (show pos + 1 ≤ n from hp)
      rw [if_pos c]
      cases q : (pT F (rbBy n B) (pos + 1)).1 with
      | true =>
        obtain ⟨m1, m2, m3, m4⟩ := q1 q
        rw [if_pos rfl]
        refine pEl_ok hF f _ p0 _ (by omega) m2 ?_ ?_
        · rw [List.length_append, List.length_append]
          show ts.length + (pT F (rbBy n B) (pos + 1)).2.2.length + 1 ≤ _
          omega
        · intro h hh
          refine rbWf_app (rbWf_app (h4 h hh) (m4 (h + 1) (by omega))) ?_
          exact ⟨⟨by decide, by decide, by decide⟩, Or.inr (Or.inr ⟨Or.inr rfl, by omega, rfl⟩)⟩
      | false =>
        obtain ⟨m1, m2⟩ := q2 q
        rw [if_neg (by decide)]
        exact ⟨fun h => (by cases h), fun _ => ⟨by show p0 ≤ (pT F (rbBy n B) (pos + 1)).2.1; omega, m2⟩⟩
    · rw [if_neg c]
      exact ⟨fun _ => ⟨h1, h2, h3, h4⟩, fun h => (by cases h)⟩
theorem pE_ok {H : Nat} (hF : ∀ pos : Nat, pos ≤ n → rbOk n pos (F pos) H) {pos : Nat} (hp : pos ≤ n) : rbOk n pos (pE F (rbBy n B) pos) (H + 2) := by
  obtain ⟨q1, q2⟩ := pT_ok (B := B) hF hp
  unfold pE
  cases q : (pT F (rbBy n B) pos).1 with
  | true =>
    obtain ⟨m1, m2, m3, m4⟩ := q1 q
    rw [if_pos rfl]
    exact pEl_ok hF 100 _ pos _ m1 m2 m3 (fun h hh => m4 h (by omega))
  | false =>
    rw [if_neg (by decide)]
    exact ⟨fun h => (by cases h), fun _ => q2 q⟩
theorem rbOk.w {pos H H' : Nat} {r : rbPr} (h : rbOk n pos r H) (hh : H ≤ H') : rbOk n pos r H' := ⟨fun q => ⟨(h.1 q).1, (h.1 q).2.1, (h.1 q).2.2.1, fun x hx => (h.1 q).2.2.2 x (by omega)⟩, h.2⟩
theorem pF_ok : ∀ (k pos : Nat), pos ≤ n → rbOk n pos (pF (rbBy n B) k pos) (2 * k + 1)
  | 0, pos, hp => pTest_ok hp
  | k + 1, pos, hp => by
    show rbOk n pos (if rbBy n B pos = 33 then _ else _) _
    by_cases c : rbBy n B pos = 33
    · have h1 := rbBy_lt (show rbBy n B pos < 128 by omega)
      obtain ⟨q1, q2⟩ := pF_ok k (pos + 1) h1
      rw [if_pos c]
      cases q : (pF (rbBy n B) k (pos + 1)).1 with
      | true =>
        obtain ⟨m1, m2, m3, m4⟩ := q1 q
        rw [if_pos rfl]
        refine ⟨fun _ => ⟨by show pos < (pF (rbBy n B) k (pos + 1)).2.1; omega, m2, ?_, ?_⟩, fun h => (by cases h)⟩
        · show ((pF (rbBy n B) k (pos + 1)).2.2 ++ [(1, 0, 0, 0)]).length ≤ (pF (rbBy n B) k (pos + 1)).2.1 - pos
          rw [List.length_append]
          show (pF (rbBy n B) k (pos + 1)).2.2.length + 1 ≤ _
          omega
        · intro h hh
          refine rbWf_app (m4 h (by omega)) ?_
          exact ⟨⟨by decide, by decide, by decide⟩, Or.inr (Or.inl ⟨rfl, by omega, rfl⟩)⟩
      | false =>
        obtain ⟨m1, m2⟩ := q2 q
        rw [if_neg (by decide)]
        exact ⟨fun h => (by cases h), fun _ => ⟨by show pos ≤ (pF (rbBy n B) k (pos + 1)).2.1; omega, m2⟩⟩
    · rw [if_neg c]
      by_cases d : rbBy n B pos = 40
      · have h1 := rbBy_lt (show rbBy n B pos < 128 by omega)
        obtain ⟨q1, q2⟩ := pE_ok (B := B) (F := pF (rbBy n B) k) (H := 2 * k + 1) (fun p hp => pF_ok k p hp) (show pos + 1 ≤ n from h1)
        rw [if_pos d]
        cases q : (pE (pF (rbBy n B) k) (rbBy n B) (pos + 1)).1 with
        | true =>
          obtain ⟨m1, m2, m3, m4⟩ := q1 q
          rw [if_pos rfl]
          by_cases e : rbBy n B (pE (pF (rbBy n B) k) (rbBy n B) (pos + 1)).2.1 = 41
          · have h2 := rbBy_lt (show rbBy n B (pE (pF (rbBy n B) k) (rbBy n B) (pos + 1)).2.1 < 128 by omega)
            rw [if_pos e]
            refine ⟨fun _ => ⟨by show pos < (pE (pF (rbBy n B) k) (rbBy n B) (pos + 1)).2.1 + 1; omega, h2, by show (pE (pF (rbBy n B) k) (rbBy n B) (pos + 1)).2.2.length ≤ (pE (pF (rbBy n B) k) (rbBy n B) (pos + 1)).2.1 + 1 - pos; omega, fun h hh => m4 h (by omega)⟩, fun h => (by cases h)⟩
          · rw [if_neg e]
            exact ⟨fun h => (by cases h), fun _ => ⟨by show pos ≤ (pE (pF (rbBy n B) k) (rbBy n B) (pos + 1)).2.1; omega, m2⟩⟩
        | false =>
          obtain ⟨m1, m2⟩ := q2 q
          rw [if_neg (by decide)]
          exact ⟨fun h => (by cases h), fun _ => ⟨by show pos ≤ (pE (pF (rbBy n B) k) (rbBy n B) (pos + 1)).2.1; omega, m2⟩⟩
      · rw [if_neg d]
        exact (pTest_ok hp).w (by omega)
end RBTX
