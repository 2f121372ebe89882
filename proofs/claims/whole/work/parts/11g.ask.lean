/-! B: one ASK, its end -/
theorem rb_min {h : Nat} (hh : h ≤ 999) : (if (999 : Int32) < nI h + 1 then 999 else nI h + 1) = nI (if h < 999 then h + 1 else 999) ∧ (999 ≤ nI h ↔ ¬ h < 999) := by
  have e : (999 : Int32) = nI 999 := rfl
  rw [e, nI_1, nI_leI (by decide) (by omega)]
  refine ⟨?_, by omega⟩
  by_cases c : h < 999
  · rw [if_neg (nI_nlt (by omega) (by omega)), if_pos c]
  · rw [if_pos (nI_lt (by omega) (by omega)), if_neg c]
section RBB
variable {N : Nat} {S : zHS} {SM : zMS} {SD : List (Nat × zPS)} {SE : List ((Nat → Nat) × zQS)} {nT nP p t : Nat} {L : List rbCl}
/-- what an ASK leaves -/
def rbAsk (S : zHS) (SM : zMS) (SE : List ((Nat → Nat) × zQS)) (t : Nat) (r : Int32) (S' : zHS) (SE' : List ((Nat → Nat) × zQS)) (SM' : zMS) : Prop :=
  rbSE SE SE' ∧ rbE S' SM' ∧ rbFh S S' ∧ rbFr SM SM' ∧ S'.1 15 = S.1 15 ∧ SM'.1 7 = SM.1 7 ∧ SM'.1 2 = SM.1 2 ∧ SM'.1 33 = (if r = 0 then SM.1 33 else if SM.1 33 ≤ 0 then SM.1 33 else SM.1 33 - 1) ∧ SM'.1 35 = (if r = 0 then SM.1 35 else SM.1 35 + SM.2.1 8 t)
theorem rb_no {x sl : Int32} {S : zHS} (hS : S.1 12 = sl) : (if sl - x < 0 then (0 : Int32) else sl - x) = (if 0 ≤ sl - x then sl - x else 0) := by
  by_cases c : sl - x < 0
  · rw [if_pos c, if_neg (fun q => absurd c (Int32.not_lt.mpr q))]
  · rw [if_neg c, if_pos (Int32.not_lt.mp c)]
theorem rb_ask (hN : 101 ≤ N) (h : rbK S SM SD nT nP L) (he : rbE S SM) (hc : rbCc S SE L) (hp : p < nP) (ht : t < nT) {w : Nat} (hw : S.2.2.1 p = some w) (hcl : S.1 11 < S.1 18) {g r : Int32} (hg : f_X12_gives N SM (nI p) (nI t) = some g) (hr : (g = 0 ∨ SM.1 33 = 0) ∧ r = 0 ∨ ¬ g = 0 ∧ ¬ SM.1 33 = 0 ∧ r = 1) :
    ∃ S' SE' SM', f_X1_pass N S SD SE (some w) (nI t) r = some (S', SE') ∧ f_X12_asks N SM (nI p) (nI t) = some (r, SM') ∧ rbAsk S SM SE t r S' SE' SM' := by
  have hr2 : r = 0 ∨ r = 1 := by rcases hr with ⟨-, q⟩ | ⟨-, -, q⟩ <;> simp [q]
  obtain ⟨SE', m1, m2⟩ := rb_moved hN h he hp ht hc hw hr2
  have hT := h.1.2.2
  have hP := h.2.1.2.2
  obtain ⟨e1, ⟨cl, cl1, cl2⟩, e2, e3, e4, e5, e6, e7⟩ := he
  obtain ⟨l, l1, l2⟩ := (rb_late hN h).2
  have hclN : cl < l := by
    rw [e1, cl2, l2] at hcl
    exact (nI_ltI (by omega) (by omega)).mp hcl
  unfold f_X1_pass f_X12_asks
  rw [rb_has h.1.1 hT ht, kC_p, kB_10, m1, kD_p, hg, kC_p]
  rcases hr with ⟨hz, rfl⟩ | ⟨hg0, h33, rfl⟩
  · obtain ⟨g1, q1⟩ := rb_sumOf (w := 1) (d := 2) hN (show p < 4 by omega) (show t < 7 by omega) (Or.inr rfl) h.2.2.2.2.2.2.1 h.2.2.2.2.2.2.2.1
    have hb : kB (g = 0) (f_X12_asks_b133 N SM (nI p) (nI t)) (kB (SM.1 33 = 0) (f_X12_asks_b133 N SM (nI p) (nI t)) (none : Option (Int32 × zMS))) = f_X12_asks_b133 N SM (nI p) (nI t) := by
      by_cases c : g = 0
      · rw [kB_p c]
      · rw [kB_n c, kB_p (hz.resolve_left c)]
    have hb2 : ∀ y, kB (g = 0) (f_X12_asks_b133 N SM (nI p) (nI t)) (kB (SM.1 33 = 0) (f_X12_asks_b133 N SM (nI p) (nI t)) y) = f_X12_asks_b133 N SM (nI p) (nI t) := by
      intro y
      by_cases c : g = 0
      · rw [kB_p c]
      · rw [kB_n c, kB_p (hz.resolve_left c)]
    rw [hb2, if_pos rfl, kB_00]
    unfold f_X12_asks_b133 f_X12_asks_b157
    rw [q1, kD_p]
    simp only [kL_p]
    have hk : ∀ x : Int32, kB (0 ≤ x) (some ((0 : Int32), mSI (mSI (mSI (mSA SM 31 g1) 4 x) 3 ((mSI (mSA SM 31 g1) 4 x).1 3 + 1)) 5 ((mSI (mSI (mSA SM 31 g1) 4 x) 3 ((mSI (mSA SM 31 g1) 4 x).1 3 + 1)).1 5 + 1))) (some ((0 : Int32), mSI (mSI (mSI (mSA SM 31 g1) 4 0) 3 ((mSI (mSA SM 31 g1) 4 0).1 3 + 1)) 5 ((mSI (mSI (mSA SM 31 g1) 4 0) 3 ((mSI (mSA SM 31 g1) 4 0).1 3 + 1)).1 5 + 1))) = some ((0 : Int32), mSI (mSI (mSI (mSA SM 31 g1) 4 (if 0 ≤ x then x else 0)) 3 ((mSI (mSA SM 31 g1) 4 (if 0 ≤ x then x else 0)).1 3 + 1)) 5 ((mSI (mSI (mSA SM 31 g1) 4 (if 0 ≤ x then x else 0)) 3 ((mSI (mSA SM 31 g1) 4 (if 0 ≤ x then x else 0)).1 3 + 1)).1 5 + 1)) := by
      intro x
      by_cases c : 0 ≤ x
      · rw [kB_p c, if_pos c]
      · rw [kB_n c, if_neg c]
    rw [hk]
    refine ⟨_, SE', _, rfl, rfl, m2, ?_, ?_, ?_, ?_, ?_, ?_, ?_, ?_⟩
    · refine ⟨?_, ⟨cl + 1, by omega, ?_⟩, ?_, ?_, ?_, ?_, ?_, ?_⟩
      · simp only [hSI_s, hSI_o _ _ (show (11 : Nat) ≠ 13 by decide), hSI_o _ _ (show (11 : Nat) ≠ 12 by decide), mSI_s, mSI_o _ _ (show (3 : Nat) ≠ 5 by decide), mSI_o _ _ (show (3 : Nat) ≠ 4 by decide), mSA_1, e1]
      · simp only [mSI_s, mSI_o _ _ (show (3 : Nat) ≠ 5 by decide), mSI_o _ _ (show (3 : Nat) ≠ 4 by decide), mSA_1, cl2, nI_1]
      · simp only [hSI_s, hSI_o _ _ (show (12 : Nat) ≠ 13 by decide), hSI_o _ _ (show (12 : Nat) ≠ 11 by decide), mSI_s, mSI_o _ _ (show (4 : Nat) ≠ 5 by decide), mSI_o _ _ (show (4 : Nat) ≠ 3 by decide), mSA_1, ← e2]
        exact rb_no rfl
      · simp only [hSI_s, hSI_o _ _ (show (13 : Nat) ≠ 12 by decide), hSI_o _ _ (show (13 : Nat) ≠ 11 by decide), mSI_s, mSI_o _ _ (show (5 : Nat) ≠ 4 by decide), mSI_o _ _ (show (5 : Nat) ≠ 3 by decide), mSA_1, e3]
      · exact e4
      · exact e5
      · exact e6
      · exact e7
    · exact ((rbFh.rf.I (by decide)).I (by decide)).I (by decide)
    · exact (((rbFr.rf.A (by decide)).I (by decide)).I (by decide)).I (by decide)
    · rfl
    · rfl
    · rfl
    · rw [if_pos rfl]; rfl
    · rw [if_pos rfl]; rfl
  · obtain ⟨g1, q1⟩ := rb_sumOf (w := 0) (d := 4) hN (show p < 4 by omega) (show t < 7 by omega) (Or.inl rfl) h.2.2.2.2.2.2.1 h.2.2.2.2.2.2.2.1
    have e10 : ¬ (1 : Int32) = 0 := by decide
    obtain ⟨hh1, hb, hb1, hb2⟩ := e7 t (by omega)
    obtain ⟨mn1, mn2⟩ := rb_min hb1
    obtain ⟨m, -, mm, mm2⟩ := h.2.2.2.1 t ht
    have jt : ¬ (nI t < 0 ∨ 7 ≤ t) := rb_in2 (by omega) (by decide)
    have hmi := (h.2.2.1 t (by omega)).1
    have hfin : ∀ SM0 : zMS, (∀ y, f_X12_asks_b109 N SM0 y (nI t) = some (1, mSI (mSA SM0 10 (upd (SM0.2.1 10) t y)) 33 (if SM0.1 33 ≤ 0 then SM0.1 33 else SM0.1 33 - 1))) := by
      intro SM0 y
      unfold f_X12_asks_b109
      rw [kO_p (nI_in (by omega) (by decide)), nI_clamp (by omega)]
      simp only [kL_p]
      by_cases c : SM0.1 33 ≤ 0
      · rw [kB_p (by exact c), if_pos c]
        show some ((1 : Int32), mSI _ 33 (SM0.1 33 - 0)) = _
        rw [Int32.sub_zero]
      · rw [kB_n (by exact c), if_neg c]
        rfl
    rw [kB_n hg0, kB_n h33, q1, kD_p, kB_10, if_neg e10]
    simp only [kL_p]
    rw [nI_clamp (show t < 2 ^ 31 by omega), kO_p jt, kO_p jt, kO_p jt, kO_p jt, kO_p jt, kO_p jt, kO_p jt]
    have hM : ∀ (X : zMS), X.2.1 10 t = nI hb → kB (999 ≤ X.2.1 10 t) (f_X12_asks_b109 N X 999 (nI t)) (f_X12_asks_b109 N X (X.2.1 10 t + 1) (nI t)) = some (1, mSI (mSA X 10 (upd (X.2.1 10) t (nI (if hb < 999 then hb + 1 else 999)))) 33 (if X.1 33 ≤ 0 then X.1 33 else X.1 33 - 1)) := by
      intro X hX
      rw [hfin, hfin, hX]
      by_cases c : hb < 999
      · rw [kB_n (fun q => mn2.mp q c), if_pos c, nI_1]
      · rw [kB_p (mn2.mpr c), if_neg c]
        rfl
    rw [hM _ (by rw [← hb2]; rfl)]
    have hC : ∀ (X : zHS), X.2.1 2 t = nI hb → hSA X 2 (upd (X.2.1 2) t (if 999 < X.2.1 2 t + 1 then 999 else X.2.1 2 t + 1)) = hSA X 2 (upd (X.2.1 2) t (nI (if hb < 999 then hb + 1 else 999))) := by
      intro X hX
      rw [hX, mn1]
    rw [hC _ (by rw [← hb2, ← hh1]; rfl)]
    refine ⟨_, SE', _, rfl, rfl, m2, ?_, ?_, ?_, ?_, ?_, ?_, ?_, ?_⟩
    · refine ⟨?_, ⟨cl + m, by omega, ?_⟩, ?_, ?_, ?_, ?_, ?_, ?_⟩
      · simp only [hSA_1, hSI_s, hSI_o _ _ (show (11 : Nat) ≠ 13 by decide), hSI_o _ _ (show (11 : Nat) ≠ 12 by decide), hSI_o _ _ (show (11 : Nat) ≠ 14 by decide), mSI_s, mSI_o _ _ (show (3 : Nat) ≠ 33 by decide), mSI_o _ _ (show (3 : Nat) ≠ 6 by decide), mSI_o _ _ (show (3 : Nat) ≠ 5 by decide), mSI_o _ _ (show (3 : Nat) ≠ 35 by decide), mSI_o _ _ (show (3 : Nat) ≠ 4 by decide), mSA_1, mSI_2, e1, hmi, mSA_o _ _ (show (8 : Nat) ≠ 31 by decide)]
      · simp only [mSI_s, mSI_o _ _ (show (3 : Nat) ≠ 33 by decide), mSI_o _ _ (show (3 : Nat) ≠ 6 by decide), mSI_o _ _ (show (3 : Nat) ≠ 5 by decide), mSI_o _ _ (show (3 : Nat) ≠ 35 by decide), mSI_o _ _ (show (3 : Nat) ≠ 4 by decide), mSA_1, mSI_2, cl2, mSA_o _ _ (show (8 : Nat) ≠ 31 by decide), mm2, nI_add]
      · simp only [hSA_1, hSI_s, hSI_o _ _ (show (12 : Nat) ≠ 13 by decide), hSI_o _ _ (show (12 : Nat) ≠ 11 by decide), hSI_o _ _ (show (12 : Nat) ≠ 14 by decide), mSI_s, mSI_o _ _ (show (4 : Nat) ≠ 33 by decide), mSI_o _ _ (show (4 : Nat) ≠ 6 by decide), mSI_o _ _ (show (4 : Nat) ≠ 5 by decide), mSI_o _ _ (show (4 : Nat) ≠ 35 by decide), mSI_o _ _ (show (4 : Nat) ≠ 3 by decide), mSA_1, mSI_2, e2]
      · simp only [hSA_1, hSI_s, hSI_o _ _ (show (13 : Nat) ≠ 14 by decide), mSI_s, mSI_o _ _ (show (5 : Nat) ≠ 33 by decide), mSI_o _ _ (show (5 : Nat) ≠ 6 by decide), mSA_1]
      · simp only [hSA_1, hSI_s, hSI_o _ _ (show (14 : Nat) ≠ 13 by decide), hSI_o _ _ (show (14 : Nat) ≠ 11 by decide), hSI_o _ _ (show (14 : Nat) ≠ 12 by decide), mSI_s, mSI_o _ _ (show (6 : Nat) ≠ 33 by decide), mSI_o _ _ (show (6 : Nat) ≠ 5 by decide), mSI_o _ _ (show (6 : Nat) ≠ 35 by decide), mSI_o _ _ (show (6 : Nat) ≠ 4 by decide), mSI_o _ _ (show (6 : Nat) ≠ 3 by decide), mSA_1, mSI_2, e4]
      · exact e5
      · exact e6
      · intro t2 ht2
        rw [hSA_s, mSI_2, mSA_s]
        by_cases c : t2 = t
        · subst c
          rw [pk_us, pk_us]
          exact ⟨rfl, _, by split <;> omega, rfl⟩
        · rw [pk_un c, pk_un c]
          exact e7 t2 ht2
    · exact ((((rbFh.rf.I (by decide)).I (by decide)).I (by decide)).I (by decide)).A
    · exact ((((((((rbFr.rf.A (by decide)).I (by decide)).I (by decide)).I (by decide)).I (by decide)).I (by decide)).A (by decide)).I (by decide))
    · rfl
    · rfl
    · rfl
    · rw [if_neg e10]; rfl
    · rw [if_neg e10]; simp only [mSI_s, mSI_o _ _ (show (35 : Nat) ≠ 33 by decide), mSI_o _ _ (show (35 : Nat) ≠ 6 by decide), mSI_o _ _ (show (35 : Nat) ≠ 5 by decide), mSI_o _ _ (show (35 : Nat) ≠ 3 by decide), mSI_o _ _ (show (35 : Nat) ≠ 4 by decide), mSA_1, mSI_2, mSA_o _ _ (show (8 : Nat) ≠ 31 by decide)]
end RBB
