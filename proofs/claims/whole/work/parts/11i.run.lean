/-! B: runs on both sides -/
section RBR
variable {N : Nat} {SD : List (Nat × zPS)} {nT nP p p2 a : Nat} {L : List rbCl}
theorem rbFr.two {A B : zMS} (h : rbFr A B) (e : B.1 2 = A.1 2) : ∀ k : Nat, k ∉ ([3, 4, 5, 6, 7, 33, 35] : List Nat) → B.1 k = A.1 k := by
  intro k hk
  by_cases c : k = 2
  · subst c; exact e
  · refine h.1 k ?_
    unfold rbDI
    simp only [List.mem_cons, List.not_mem_nil, or_false, not_or] at hk ⊢
    omega
/-- what a run leaves -/
def rbRun (S : zHS) (SM : zMS) (SE : List ((Nat → Nat) × zQS)) (S' : zHS) (SE' : List ((Nat → Nat) × zQS)) (SM' : zMS) : Prop := rbSE SE SE' ∧ rbFh S S' ∧ rbFr SM SM' ∧ SM'.1 2 = SM.1 2
theorem rbRun.rf {S : zHS} {SM : zMS} {SE : List ((Nat → Nat) × zQS)} : rbRun S SM SE S SE SM := ⟨rbSE.rf, rbFh.rf, rbFr.rf, rfl⟩
theorem rbRun.tr {A B C : zHS} {M1 M2 M3 : zMS} {E1 E2 E3 : List ((Nat → Nat) × zQS)} (h : rbRun A M1 E1 B E2 M2) (k : rbRun B M2 E2 C E3 M3) : rbRun A M1 E1 C E3 M3 := ⟨h.1.tr k.1, h.2.1.tr k.2.1, h.2.2.1.tr k.2.2.1, k.2.2.2.trans h.2.2.2⟩
theorem rb_odd {x : Nat} (hx : x < 2 ^ 31) : nI x - nI x / 2 * 2 = nI (x % 2) := by
  have e : (2 : Int32) = nI 2 := rfl
  rw [e, pk_rem hx (by decide) (by decide)]
/-- one, asked alone -/
theorem rb_run1 (hN : 101 ≤ N) (hp : p < nP) {w m : Nat} (hm : m ≤ 60) :
    ∀ (j x n n' b : Nat) (ST : zTS) (S : zHS) (SE : List ((Nat → Nat) × zQS)) (SM : zMS), x + j = m → j < n → j < n' → S.2.2.1 p = some w → rbT S SM SD SE nT nP L a (b + j) ST →
    ∃ (ST' : zTS) (S' : zHS) (SE' : List ((Nat → Nat) × zQS)) (SM' : zMS) (k : Nat), f_X10_run_l3 N SD n ST S SE (some w) (some w) (nI m) (nI x) = some (ST', S', SE') ∧ f_X12_goAsks_l2 N n' SM (nI p) (nI m) (nI x) = some (nI k, SM') ∧ k ≤ m ∧ rbT S' SM' SD SE' nT nP L a b ST' ∧ rbRun S SM SE S' SE' SM' ∧ ST'.1 5 = ST.1 5 + (nI k - nI x)
  | j, x, 0, n', b, ST, S, SE, SM, _, hn, _, _, _ => by omega
  | j, x, n + 1, 0, b, ST, S, SE, SM, _, _, hn, _, _ => by omega
  | 0, x, n + 1, n' + 1, b, ST, S, SE, SM, hx, _, _, hw, h => by
    have hx : x = m := by omega
    subst hx
    refine ⟨ST, S, SE, SM, x, ?_, ?_, Nat.le_refl _, h, rbRun.rf, ?_⟩
    · rw [s_X10_run_l3]
      show kB _ _ _ = _
      rw [kB_p (nI_le (Nat.le_refl _) (by omega))]
    · rw [s_X12_goAsks_l2]
      show kB _ _ _ = _
      rw [kB_p (nI_le (Nat.le_refl _) (by omega))]
    · rw [Int32.sub_self, Int32.add_zero]
  | j + 1, x, n + 1, n' + 1, b, ST, S, SE, SM, hx, hn, hn', hw, h => by
    obtain ⟨o1, o2⟩ := rb_over hN h
    have hlt : ¬ nI m ≤ nI x := nI_ge (by omega) (by omega)
    by_cases c : rbHow S = 0 ∧ 0 < rbTu nT a
    · rw [if_pos c] at o1 o2
      obtain ⟨r, ST1, S1, SE1, SM1, t1, t2, -, t4, t5, t6, t7, t8, t9⟩ := rb_go (b := b + j) hN h hp hw c.1 c.2
      obtain ⟨ST', S', SE', SM', k, i1, i2, i3, i4, i5, i6⟩ := rb_run1 hN hp hm j (x + 1) n n' b ST1 S1 SE1 SM1 (by omega) (by omega) (by omega) (by rw [t6.2.2]; exact hw) t4
      refine ⟨ST', S', SE', SM', k, ?_, ?_, i3, i4, rbRun.tr ⟨t5, t6, t7, t9⟩ i5, ?_⟩
      · rw [s_X10_run_l3]
        show kB _ _ _ = _
        rw [kB_n hlt, o1, kC_p, kB_10]
        simp only [kL_p, t1, kD4_p, nI_1, i1]
        by_cases d : nI x - nI x / 2 * 2 = 0
        · rw [kB_p d]
        · rw [kB_n d]
      · rw [s_X12_goAsks_l2]
        show kB _ _ _ = _
        rw [kB_n hlt, o2, kC_p, kB_00, t2, kD_p, kL_p, nI_1, i2]
      · rw [i6, t8, ← nI_1]
        have : ∀ u k x : Int32, u + 1 + (k - (x + 1)) = u + (k - x) := by
          intro u k x
          grind
        exact this _ _ _
    · rw [if_neg c] at o1 o2
      refine ⟨ST, S, SE, SM, x, ?_, ?_, by omega, ?_, rbRun.rf, ?_⟩
      · rw [s_X10_run_l3]
        show kB _ _ _ = _
        rw [kB_n hlt, o1, kC_p, kB_00]
      · rw [s_X12_goAsks_l2]
        show kB _ _ _ = _
        rw [kB_n hlt, o2, kC_p, kB_10]
      · obtain ⟨h1, h2, h3, h4, h5⟩ := h
        refine ⟨h1, h2, h3, h4, ?_⟩
        rcases h5 with ⟨c1, c, c2, c3, c4⟩ | h5
        · exact Or.inl ⟨c1, c, c2, by omega, c4⟩
        · exact Or.inr h5
      · rw [Int32.sub_self, Int32.add_zero]
/-- two, by turns: what is behind both, in the words of the reference's row -/
theorem rb_run2 (hN : 101 ≤ N) (hp : p < nP) (hp2 : p2 < nP) {w w2 : Nat} :
    ∀ (j x n n' b : Nat) (ST : zTS) (S : zHS) (SE : List ((Nat → Nat) × zQS)) (SM : zMS), x + j = 60 → j < n → j < n' → S.2.2.1 p = some w → S.2.2.1 p2 = some w2 → rbT S SM SD SE nT nP L a (b + j) ST →
    ∃ (ST' : zTS) (S' : zHS) (SE' : List ((Nat → Nat) × zQS)) (SM' : zMS), f_X10_run_l3 N SD n ST S SE (some w) (some w2) 60 (nI x) = some (ST', S', SE') ∧ f_X12_both_l24 N n' SM (nI p) (nI p2) (nI x) = f_X12_both_b60 N SM' ∧ rbT S' SM' SD SE' nT nP L a b ST' ∧ rbRun S SM SE S' SE' SM'
  | j, x, 0, n', b, ST, S, SE, SM, _, hn, _, _, _, _ => by omega
  | j, x, n + 1, 0, b, ST, S, SE, SM, _, _, hn, _, _, _ => by omega
  | 0, x, n + 1, n' + 1, b, ST, S, SE, SM, hx, _, _, hw, hw2, h => by
    have hx : x = 60 := by omega
    subst hx
    refine ⟨ST, S, SE, SM, ?_, ?_, h, rbRun.rf⟩
    · rw [s_X10_run_l3]
      show kB _ _ _ = _
      rw [kB_p (by decide)]
    · rw [s_X12_both_l24]
      show kB _ _ _ = _
      rw [kB_p (by decide)]
  | j + 1, x, n + 1, n' + 1, b, ST, S, SE, SM, hx, hn, hn', hw, hw2, h => by
    obtain ⟨o1, o2⟩ := rb_over hN h
    have hlt : ¬ (60 : Int32) ≤ nI x := nI_ge (b := 60) (by omega) (by omega)
    by_cases c : rbHow S = 0 ∧ 0 < rbTu nT a
    · rw [if_pos c] at o1 o2
      by_cases d : nI x - nI x / 2 * 2 = 0
      · obtain ⟨r, ST1, S1, SE1, SM1, t1, t2, -, t4, t5, t6, t7, t8, t9⟩ := rb_go (b := b + j) hN h hp hw c.1 c.2
        obtain ⟨ST', S', SE', SM', i1, i2, i4, i5⟩ := rb_run2 hN hp hp2 j (x + 1) n n' b ST1 S1 SE1 SM1 (by omega) (by omega) (by omega) (by rw [t6.2.2]; exact hw) (by rw [t6.2.2]; exact hw2) t4
        refine ⟨ST', S', SE', SM', ?_, ?_, i4, rbRun.tr ⟨t5, t6, t7, t9⟩ i5⟩
        · rw [s_X10_run_l3]
          show kB _ _ _ = _
          rw [kB_n hlt, o1, kC_p, kB_10, kL_p, kB_p d, t1, kD4_p, kL_p, nI_1, i1]
        · rw [s_X12_both_l24]
          show kB _ _ _ = _
          rw [kB_n hlt, o2, kC_p, kB_00, kL_p, kB_p d, t2, kD_p, kL_p, nI_1, i2]
      · obtain ⟨r, ST1, S1, SE1, SM1, t1, t2, -, t4, t5, t6, t7, t8, t9⟩ := rb_go (b := b + j) hN h hp2 hw2 c.1 c.2
        obtain ⟨ST', S', SE', SM', i1, i2, i4, i5⟩ := rb_run2 hN hp hp2 j (x + 1) n n' b ST1 S1 SE1 SM1 (by omega) (by omega) (by omega) (by rw [t6.2.2]; exact hw) (by rw [t6.2.2]; exact hw2) t4
        refine ⟨ST', S', SE', SM', ?_, ?_, i4, rbRun.tr ⟨t5, t6, t7, t9⟩ i5⟩
        · rw [s_X10_run_l3]
          show kB _ _ _ = _
          rw [kB_n hlt, o1, kC_p, kB_10, kL_p, kB_n d, t1, kD4_p, kL_p, nI_1, i1]
        · rw [s_X12_both_l24]
          show kB _ _ _ = _
          rw [kB_n hlt, o2, kC_p, kB_00, kL_p, kB_n d, t2, kD_p, kL_p, nI_1, i2]
    · rw [if_neg c] at o1 o2
      refine ⟨ST, S, SE, SM, ?_, ?_, ?_, rbRun.rf⟩
      · rw [s_X10_run_l3]
        show kB _ _ _ = _
        rw [kB_n hlt, o1, kC_p, kB_00]
      · rw [s_X12_both_l24]
        show kB _ _ _ = _
        rw [kB_n hlt, o2, kC_p, kB_10]
      · obtain ⟨h1, h2, h3, h4, h5⟩ := h
        refine ⟨h1, h2, h3, h4, ?_⟩
        rcases h5 with ⟨c1, c, c2, c3, c4⟩ | h5
        · exact Or.inl ⟨c1, c, c2, by omega, c4⟩
        · exact Or.inr h5
end RBR
