/-! B: all of it -/
def rbRI : List Nat := [0, 1, 2, 3, 4, 5, 6, 7, 15, 32, 33, 34, 46, 48]
def rbRel (A B : zMS) : Prop := (∀ k : Nat, k ∈ rbRI → B.1 k = A.1 k) ∧ (∀ k : Nat, k ∈ ([20, 21, 22, 23, 24, 25] : List Nat) → B.2.1 k = A.2.1 k) ∧ (∀ t : Nat, t < 7 → B.2.1 8 t = A.2.1 8 t ∧ B.2.1 9 t = A.2.1 9 t ∧ B.2.1 10 t = A.2.1 10 t) ∧ (∀ p : Nat, p < 4 → B.2.1 11 p = A.2.1 11 p ∧ B.2.1 12 p = A.2.1 12 p) ∧ (∀ i : Nat, i < 16 → B.2.1 13 i = A.2.1 13 i) ∧ (∀ i : Nat, i < 8 → B.2.1 47 i = A.2.1 47 i) ∧ ∀ i : Nat, i < 12 → B.2.1 49 i = A.2.1 49 i
def rbSD (A B : List (Nat × zPS)) : Prop := ∀ (a : Nat) (v : zPS), plook A a = some v → plook B a = some v
theorem rbSD.rf {A : List (Nat × zPS)} : rbSD A A := fun _ _ h => h
theorem rbSD.pok {A B : List (Nat × zPS)} (h : rbSD A B) {x : Option Nat} (k : pok A x = true) : pok B x = true := by
  cases x with
  | none => rfl
  | some a =>
    have k : (plook A a).isSome = true := k
    show (plook B a).isSome = true
    cases e : plook A a with
    | none => rw [e] at k; cases k
    | some v => rw [h a v e]; rfl
def rbUn (S : zMS) : zMS := (fun k => if k = 15 then S.1 51 else if k = 0 then S.1 52 else if k = 1 then S.1 53 else if k = 2 then S.1 54 else if k = 3 then S.1 55 else if k = 4 then S.1 56 else if k = 5 then S.1 57 else if k = 6 then S.1 58 else if k = 7 then S.1 59 else if k = 46 then S.1 60 else if k = 48 then S.1 61 else S.1 k,
  fun k => if k = 8 then S.2.1 62 else if k = 9 then S.2.1 63 else if k = 10 then S.2.1 64 else if k = 11 then S.2.1 65 else if k = 12 then S.2.1 66 else if k = 13 then S.2.1 67 else if k = 49 then S.2.1 68 else if k = 47 then S.2.1 69 else S.2.1 k, S.2.2)
section RBALL
variable {SX SR : zRS} {SN SN' SK : zHS} {SM SM' A B C : zMS} {SV : Nat → Nat → Int64} {SG : Nat → Int32} {SD SD' : List (Nat × zPS)} {SE SE' : List ((Nat → Nat) × zQS)} {nT nP : Nat} {L : List rbCl} {HS : List (Nat × List rbCl)}
theorem rbRel.rf : rbRel A A := ⟨fun _ _ => rfl, fun _ _ => rfl, fun _ _ => ⟨rfl, rfl, rfl⟩, fun _ _ => ⟨rfl, rfl⟩, fun _ _ => rfl, fun _ _ => rfl, fun _ _ => rfl⟩
theorem rbRel.tr (h : rbRel A B) (k : rbRel B C) : rbRel A C := by
  obtain ⟨h1, h2, h3, h4, h5, h6, h7⟩ := h
  obtain ⟨k1, k2, k3, k4, k5, k6, k7⟩ := k
  refine ⟨fun i hi => (k1 i hi).trans (h1 i hi), fun i hi => (k2 i hi).trans (h2 i hi), fun t ht => ⟨(k3 t ht).1.trans (h3 t ht).1, (k3 t ht).2.1.trans (h3 t ht).2.1, (k3 t ht).2.2.trans (h3 t ht).2.2⟩, fun p hp => ⟨(k4 p hp).1.trans (h4 p hp).1, (k4 p hp).2.trans (h4 p hp).2⟩, fun i hi => (k5 i hi).trans (h5 i hi), fun i hi => (k6 i hi).trans (h6 i hi), fun i hi => (k7 i hi).trans (h7 i hi)⟩
theorem rbJ.rel (h : rbJ A B) : rbRel A B := ⟨fun k hk => h.1 k (mem_ne (by decide) hk), fun k hk => h.2.1 k (mem_ne (by decide) hk), fun t ht => ⟨by rw [h.2.1 8 (by decide)], by rw [h.2.1 9 (by decide)], h.2.2.1 t ht⟩, fun p _ => ⟨by rw [h.2.1 11 (by decide)], by rw [h.2.1 12 (by decide)]⟩, fun i _ => by rw [h.2.1 13 (by decide)], fun i _ => by rw [h.2.1 47 (by decide)], fun i _ => by rw [h.2.1 49 (by decide)]⟩
theorem rbNow.p (r : rbRel SM SM') (s : rbSE SE SE') (d : rbSD SD SD') (h : rbNow SN SM SD SE nT nP L) : rbNow SN SM' SD' SE' nT nP L := by
  obtain ⟨⟨⟨a1, a2, a3⟩, ⟨b1, b2, b3⟩, c, f, e, q, m, w, l1, l2⟩, ⟨g1, g2, g3, g4, g5, g6, g7, g8⟩, k, o, z32, z33, z34, pk, sd, hd, bk, ev⟩ := h
  obtain ⟨r1, r2, r3, r4, r5, r6, r7⟩ := r
  refine ⟨⟨⟨a1, (r1 0 (by decide)).trans a2, a3⟩, ⟨b1, (r1 1 (by decide)).trans b2, b3⟩, ?_, ?_, ?_, ?_, m.e (r1 15 (by decide)) (r2 20 (by decide)) (r2 21 (by decide)) (r2 22 (by decide)) (r2 23 (by decide)) (r2 24 (by decide)) (r2 25 (by decide)), w, l1, ?_⟩, ⟨?_, ?_, ?_, ?_, ?_, ?_, ?_, ?_⟩, k.e rfl s, ?_, (r1 32 (by decide)).trans z32, (r1 33 (by decide)).trans z33, (r1 34 (by decide)).trans z34, fun i hi => d.pok (pk i hi), ?_, ?_, ?_, ?_⟩
  · intro t ht; rw [(r3 t ht).1, (r3 t ht).2.1]; exact c t ht
  · intro t ht; rw [(r3 t (by omega)).1]; exact f t ht
  · intro i hi; rw [r5 i hi]; exact e i hi
  · intro p hp
    obtain ⟨w, k, v, w1, w2, k7, v9, w3, w4⟩ := q p hp
    exact ⟨w, k, v, w1, d _ _ w2, k7, v9, (r4 p (by omega)).1.trans w3, (r4 p (by omega)).2.trans w4⟩
  · rw [r1 32 (by decide)]; exact l2
  · rw [r1 3 (by decide)]; exact g1
  · rw [r1 3 (by decide)]; exact g2
  · rw [r1 4 (by decide)]; exact g3
  · rw [r1 5 (by decide)]; exact g4
  · rw [r1 6 (by decide)]; exact g5
  · rw [r1 2 (by decide)]; exact g6
  · rw [r1 2 (by decide)]; exact g7
  · intro t ht; rw [(r3 t ht).2.2]; exact g8 t ht
  · rw [r1 7 (by decide)]; exact o
  · intro i hi; rw [r6 i hi]; exact sd i hi
  · rw [r1 46 (by decide)]; exact hd
  · obtain ⟨k, k1, k2, k3, k4⟩ := bk
    refine ⟨k, k1, k2, (r1 48 (by decide)).trans k3, fun i hi => ?_⟩
    rw [r7 i (by omega)]
    exact k4 i hi
  · rw [r1 2 (by decide)]; exact ev
theorem rbNow.eq (e : rbEq SN' SN) (h : rbNow SN SM SD SE nT nP L) : rbNow SN' SM SD SE nT nP L := by
  obtain ⟨a, b, c, d, z32, z33, z34, pk, sd, hd, bk, ev⟩ := h
  refine ⟨a.eq e, b.eq e, c.eq e, ?_, z32, z33, z34, ?_, ?_, ?_, ?_, ev⟩
  · rw [e.1 15 (by decide)]; exact d
  · intro i hi; rw [e.2.2.2.2.2.1 i hi]; exact pk i hi
  · intro i hi; rw [e.2.2.2.1 i hi]; exact sd i hi
  · rw [e.1 9 (by decide)]; exact hd
  · obtain ⟨k, k1, k2, k3, k4⟩ := bk
    refine ⟨k, k1, (e.1 10 (by decide)).trans k2, k3, fun i hi => ?_⟩
    rw [e.2.2.2.2.1 i (by omega)]
    exact k4 i hi
def rbHs (HS : List (Nat × List rbCl)) (SX : zRS) (SM : zMS) (SE : List ((Nat → Nat) × zQS)) : Prop := HS.length ≤ 6 ∧ SX.1 10 = nI HS.length ∧ SM.1 14 = nI HS.length ∧ ∀ (f a : Nat) (Lf : List rbCl), HS[f]? = some (a, Lf) → ∃ (u : Nat → Nat) (Q : zQS), hlook SE a = some (u, Q) ∧ u 200 = a ∧ rbHC Lf Q ∧ rbMh SM f Lf ∧ rbWL Lf
def rbLk (HS : List (Nat × List rbCl)) (L : List rbCl) (SN : zHS) (SM : zMS) : Prop := (SM.1 15 = -1 ∧ L = [] ∧ SN.2.2.2 = none) ∨ ∃ f a : Nat, SM.1 15 = nI f ∧ HS[f]? = some (a, L) ∧ SN.2.2.2 = some a
def rbIm (SX : zRS) (SK : zHS) (SM : zMS) (SD : List (Nat × zPS)) (SE : List ((Nat → Nat) × zQS)) (HS : List (Nat × List rbCl)) : Prop := (SX.1 11 = 0 ∧ SM.1 50 = 0) ∨ (SX.1 11 = 1 ∧ SM.1 50 = 1 ∧ ∃ (nT nP : Nat) (L : List rbCl), rbNow SK (rbUn SM) SD SE nT nP L ∧ rbLk HS L SK (rbUn SM))
def rbTx (SR : zRS) (SM : zMS) : Prop := ∃ n : Nat, n ≤ 100 ∧ SR.1 5 = nI n ∧ SM.1 16 = nI n ∧ ∀ i : Nat, i < n → SR.2 0 i = SM.2.1 19 i ∧ ∃ c : Nat, c < 128 ∧ SM.2.1 19 i = nI c
def rbTg (SG : Nat → Int32) (SM : zMS) : Prop := ∃ r : Nat, r ≤ 40 ∧ SG 20 = nI r ∧ SM.1 70 = nI r ∧ ∀ i : Nat, i < 20 → i < r → SG i = SM.2.1 71 i
def rbTp (SX : zRS) (SV : Nat → Nat → Int64) (SM : zMS) : Prop := ∀ t : Nat, t < 6 → (SX.2 5 t = -1 ∨ ∃ k : Nat, k < 5 ∧ SX.2 5 t = nI k) ∧ SM.2.1 72 t = SX.2 5 t ∧ (∃ z : Nat, z ≤ 60 ∧ SX.2 6 t = nI z ∧ SM.2.1 73 t = nI z) ∧ ∀ i : Nat, i < 60 → SV t i = SM.2.2 74 (60 * t + i)
def rbLet : List Int32 := [99, 97, 108, 109, 102, 117, 115, 115, 108, 97, 116, 101, 100, 101, 101, 112]
def rbLt (SM : zMS) : Prop := ∀ i : Nat, i < 16 → SM.2.1 30 i = rbLet.getD i 0
def rbAll (SX : zRS) (SN SK : zHS) (SR : zRS) (SV : Nat → Nat → Int64) (SG : Nat → Int32) (SD : List (Nat × zPS)) (SE : List ((Nat → Nat) × zQS)) (SM : zMS) : Prop :=
  ∃ (nT nP : Nat) (L : List rbCl) (HS : List (Nat × List rbCl)), rbNow SN SM SD SE nT nP L ∧ rbHs HS SX SM SE ∧ rbLk HS L SN SM ∧ rbIm SX SK SM SD SE HS ∧ rbTx SR SM ∧ rbTg SG SM ∧ rbTp SX SV SM ∧ rbLt SM
theorem rbMh.e {f : Nat} (h6 : SM'.2.1 20 = SM.2.1 20) (h1 : SM'.2.1 21 = SM.2.1 21) (h2 : SM'.2.1 22 = SM.2.1 22) (h3 : SM'.2.1 23 = SM.2.1 23) (h4 : SM'.2.1 24 = SM.2.1 24) (h5 : SM'.2.1 25 = SM.2.1 25) (h : rbMh SM f L) : rbMh SM' f L :=
  ⟨h.1, by rw [h6]; exact h.2.1, h.2.2.1, rbMl.e h1 h2 h3 h4 h5 h.2.2.2⟩
theorem rbHs.e {SX' : zRS} (hx : SX'.1 10 = SX.1 10) (s : rbSE SE SE') (i14 : SM'.1 14 = SM.1 14) (ha : ∀ k : Nat, k ∈ ([20, 21, 22, 23, 24, 25] : List Nat) → SM'.2.1 k = SM.2.1 k) (h : rbHs HS SX SM SE) : rbHs HS SX' SM' SE' := by
  obtain ⟨h1, h2, h3, h4⟩ := h
  refine ⟨h1, hx.trans h2, i14.trans h3, fun f a Lf hf => ?_⟩
  obtain ⟨u, Q, q1, q2, q3, q4, q5⟩ := h4 f a Lf hf
  obtain ⟨Q', p1, p2, p3⟩ := s a u Q q1
  exact ⟨u, Q', p1, q2, q3.e p2 p3, q4.e (ha 20 (by decide)) (ha 21 (by decide)) (ha 22 (by decide)) (ha 23 (by decide)) (ha 24 (by decide)) (ha 25 (by decide)), q5⟩
theorem rbUn_rel (hi : ∀ k : Nat, k ∈ ([32, 33, 34, 51, 52, 53, 54, 55, 56, 57, 58, 59, 60, 61] : List Nat) → SM'.1 k = SM.1 k) (ha : ∀ k : Nat, k ∈ ([20, 21, 22, 23, 24, 25, 62, 63, 64, 65, 66, 67, 68, 69] : List Nat) → SM'.2.1 k = SM.2.1 k) : rbRel (rbUn SM) (rbUn SM') := by
  refine ⟨?_, ?_, ?_, ?_, ?_, ?_, ?_⟩
  · intro k hk
    simp only [rbRI, List.mem_cons, List.not_mem_nil, or_false] at hk
    rcases hk with rfl | rfl | rfl | rfl | rfl | rfl | rfl | rfl | rfl | rfl | rfl | rfl | rfl | rfl
    · exact hi 52 (by decide)
    · exact hi 53 (by decide)
    · exact hi 54 (by decide)
    · exact hi 55 (by decide)
    · exact hi 56 (by decide)
    · exact hi 57 (by decide)
    · exact hi 58 (by decide)
    · exact hi 59 (by decide)
    · exact hi 51 (by decide)
    · exact hi 32 (by decide)
    · exact hi 33 (by decide)
    · exact hi 34 (by decide)
    · exact hi 60 (by decide)
    · exact hi 61 (by decide)
  · intro k hk
    simp only [List.mem_cons, List.not_mem_nil, or_false] at hk
    rcases hk with rfl | rfl | rfl | rfl | rfl | rfl
    · exact ha 20 (by decide)
    · exact ha 21 (by decide)
    · exact ha 22 (by decide)
    · exact ha 23 (by decide)
    · exact ha 24 (by decide)
    · exact ha 25 (by decide)
  · intro t _
    refine ⟨?_, ?_, ?_⟩
    · show SM'.2.1 62 t = SM.2.1 62 t
      rw [ha 62 (by decide)]
    · show SM'.2.1 63 t = SM.2.1 63 t
      rw [ha 63 (by decide)]
    · show SM'.2.1 64 t = SM.2.1 64 t
      rw [ha 64 (by decide)]
  · intro p _
    refine ⟨?_, ?_⟩
    · show SM'.2.1 65 p = SM.2.1 65 p
      rw [ha 65 (by decide)]
    · show SM'.2.1 66 p = SM.2.1 66 p
      rw [ha 66 (by decide)]
  · intro i _
    show SM'.2.1 67 i = SM.2.1 67 i
    rw [ha 67 (by decide)]
  · intro i _
    show SM'.2.1 69 i = SM.2.1 69 i
    rw [ha 69 (by decide)]
  · intro i _
    show SM'.2.1 68 i = SM.2.1 68 i
    rw [ha 68 (by decide)]
theorem rbIm.e {SX' : zRS} (hx : SX'.1 11 = SX.1 11) (s : rbSE SE SE') (d : rbSD SD SD') (h50 : SM'.1 50 = SM.1 50) (hi : ∀ k : Nat, k ∈ ([32, 33, 34, 51, 52, 53, 54, 55, 56, 57, 58, 59, 60, 61] : List Nat) → SM'.1 k = SM.1 k) (ha : ∀ k : Nat, k ∈ ([20, 21, 22, 23, 24, 25, 62, 63, 64, 65, 66, 67, 68, 69] : List Nat) → SM'.2.1 k = SM.2.1 k) (h : rbIm SX SK SM SD SE HS) : rbIm SX' SK SM' SD' SE' HS := by
  rcases h with ⟨h1, h2⟩ | ⟨h1, h2, nT, nP, L, h3, h4⟩
  · exact Or.inl ⟨hx.trans h1, h50.trans h2⟩
  · refine Or.inr ⟨hx.trans h1, h50.trans h2, nT, nP, L, h3.p (rbUn_rel hi ha) s d, ?_⟩
    have e15 : (rbUn SM').1 15 = (rbUn SM).1 15 := hi 51 (by decide)
    unfold rbLk
    rw [e15]
    exact h4
/-- the frame: what an answer without a change of how all is leaves -/
theorem rbAll.j (j : rbJ SM SM') (s : rbSE SE SE') (h : rbAll SX SN SK SR SV SG SD SE SM) : rbAll SX SN SK SR SV SG SD SE' SM' := by
  obtain ⟨nT, nP, L, HS, a, b, c, d, e, f, g, l⟩ := h
  refine ⟨nT, nP, L, HS, a.j j s, b.e rfl s (j.1 14 (by decide)) (fun k hk => j.2.1 k (mem_ne (by decide) hk)), ?_, d.e rfl s rbSD.rf (j.1 50 (by decide)) (fun k hk => j.1 k (mem_ne (by decide) hk)) (fun k hk => j.2.1 k (mem_ne (by decide) hk)), ?_, ?_, ?_, ?_⟩
  · unfold rbLk; rw [j.1 15 (by decide)]; exact c
  · unfold rbTx; rw [j.1 16 (by decide), j.2.1 19 (by decide)]; exact e
  · unfold rbTg; rw [j.1 70 (by decide), j.2.1 71 (by decide)]; exact f
  · unfold rbTp; rw [j.2.1 72 (by decide), j.2.1 73 (by decide), j.2.2.2]; exact g
  · unfold rbLt; rw [j.2.1 30 (by decide)]; exact l
/-- the frame: only how all is now, in the reference's rows of now -/
def rbNI : List Nat := [0, 1, 2, 3, 4, 5, 6, 7, 46, 48]
def rbNA : List Nat := [8, 9, 10, 11, 12, 13, 31, 47, 49]
theorem rbAll.n (hi : ∀ k : Nat, k ∉ rbNI → SM'.1 k = SM.1 k ∨ k = 35) (ha : ∀ k : Nat, k ∉ rbNA → SM'.2.1 k = SM.2.1 k) (h2 : SM'.2.2 = SM.2.2) (s : rbSE SE SE') (dd : rbSD SD SD') (hh : SN'.2.2.2 = SN.2.2.2) (hn : ∀ nT nP L, rbNow SN SM SD SE nT nP L → ∃ nT' nP', rbNow SN' SM' SD' SE' nT' nP' L) (h : rbAll SX SN SK SR SV SG SD SE SM) : rbAll SX SN' SK SR SV SG SD' SE' SM' := by
  obtain ⟨nT, nP, L, HS, a, b, c, d, e, f, g, l⟩ := h
  obtain ⟨nT', nP', a'⟩ := hn nT nP L a
  have hi' : ∀ k : Nat, k ∉ rbNI → k ≠ 35 → SM'.1 k = SM.1 k := fun k h1 h2 => (hi k h1).resolve_right h2
  refine ⟨nT', nP', L, HS, a', b.e rfl s (hi' 14 (by decide) (by decide)) (fun k hk => ha k (mem_ne (by decide) hk)), ?_, d.e rfl s dd (hi' 50 (by decide) (by decide)) (fun k hk => hi' k (mem_ne (by decide) hk) (by intro e; subst e; revert hk; decide)) (fun k hk => ha k (mem_ne (by decide) hk)), ?_, ?_, ?_, ?_⟩
  · unfold rbLk; rw [hi' 15 (by decide) (by decide), hh]; exact c
  · unfold rbTx; rw [hi' 16 (by decide) (by decide), ha 19 (by decide)]; exact e
  · unfold rbTg; rw [hi' 70 (by decide) (by decide), ha 71 (by decide)]; exact f
  · unfold rbTp; rw [ha 72 (by decide), ha 73 (by decide), h2]; exact g
  · unfold rbLt; rw [ha 30 (by decide)]; exact l
end RBALL
