/-! B: the evening on both sides -/
theorem kB_10 {α : Type} {x y : Option α} : kB ((1 : Int32) = 0) x y = y := kB_n (by decide)
theorem kB_00 {α : Type} {x y : Option α} : kB ((0 : Int32) = 0) x y = x := kB_p rfl
def rbCc (S : zHS) (SE : List ((Nat → Nat) × zQS)) (L : List rbCl) : Prop := (S.2.2.2 = none ∧ L = []) ∨ ∃ (a : Nat) (u : Nat → Nat) (Q : zQS), S.2.2.2 = some a ∧ hlook SE a = some (u, Q) ∧ u 200 = a ∧ rbHC L Q
def rbK (S : zHS) (SM : zMS) (SD : List (Nat × zPS)) (nT nP : Nat) (L : List rbCl) : Prop :=
  (S.1 7 = nI nT ∧ SM.1 0 = nI nT ∧ nT ≤ 7) ∧ (S.1 8 = nI nP ∧ SM.1 1 = nI nP ∧ nP ≤ 4) ∧
  (∀ t : Nat, t < 7 → S.2.1 0 t = SM.2.1 8 t ∧ S.2.1 1 t = SM.2.1 9 t) ∧ (∀ t : Nat, t < nT → ∃ m : Nat, 1 ≤ m ∧ m ≤ 20 ∧ SM.2.1 8 t = nI m) ∧
  (∀ i : Nat, i < 16 → S.2.1 4 i = SM.2.1 13 i ∧ (SM.2.1 13 i = 0 ∨ SM.2.1 13 i = 1)) ∧
  (∀ p : Nat, p < nP → ∃ (w k v : Nat), S.2.2.1 p = some w ∧ plook SD w = some (nI k, nI p, nI v) ∧ k < 7 ∧ v ≤ 9 ∧ SM.2.1 11 p = nI k ∧ SM.2.1 12 p = nI v) ∧
  rbMc SM L ∧ rbWL L ∧ S.1 19 = rbLast 3 L 30 ∧ (SM.1 32 = -1 ∧ S.1 18 = rbLast 2 L 60 ∨ ∃ l : Nat, 1 ≤ l ∧ l ≤ 99 ∧ SM.1 32 = nI l ∧ S.1 18 = nI l)
def rbE (S : zHS) (SM : zMS) : Prop := S.1 11 = SM.1 3 ∧ (∃ c : Nat, c ≤ 118 ∧ SM.1 3 = nI c) ∧ S.1 12 = SM.1 4 ∧ S.1 13 = SM.1 5 ∧ S.1 14 = SM.1 6 ∧ S.1 16 = SM.1 2 ∧ (∃ e : Nat, e ≤ 10020 ∧ SM.1 2 = nI e) ∧ ∀ t : Nat, t < 7 → S.2.1 2 t = SM.2.1 10 t ∧ ∃ h : Nat, h ≤ 999 ∧ SM.2.1 10 t = nI h
theorem rbLast_b {w : Int32} : ∀ {L : List rbCl} {d : Int32}, rbWL L → (∃ k : Nat, k ≤ 99 ∧ d = nI k) → ∃ k : Nat, k ≤ 99 ∧ rbLast w L d = nI k
  | [], d, _, h => h
  | c :: L, d, hW, h => by
    show ∃ k : Nat, k ≤ 99 ∧ rbLast w L (if c.1 = w then c.2.1 else d) = nI k
    refine rbLast_b (fun c' m => hW c' (List.mem_cons_of_mem _ m)) ?_
    split
    · exact (hW c (List.mem_cons_self ..)).2
    · exact h
section RBE
variable {N : Nat} {S : zHS} {SM : zMS} {SD : List (Nat × zPS)} {nT nP p t : Nat} {L : List rbCl}
theorem rb_late (hN : 101 ≤ N) (h : rbK S SM SD nT nP L) : f_X12_late N SM = some (S.1 18) ∧ ∃ l : Nat, l ≤ 99 ∧ S.1 18 = nI l := by
  obtain ⟨-, -, -, -, -, -, hM, hW, -, h⟩ := h
  unfold f_X12_late
  rcases h with ⟨h1, h2⟩ | ⟨l, h0, h1, h2, h3⟩
  · rw [h1, kB_n (by decide), rb_lastOf hN hM, kC_p, h2]
    exact ⟨rfl, rbLast_b hW ⟨60, by decide, rfl⟩⟩
  · rw [h2, kB_p (nI_pos' (by omega)), h3]
    exact ⟨rfl, l, h1, rfl⟩
theorem rb_deep (hN : 101 ≤ N) (h : rbK S SM SD nT nP L) : f_X12_deep N SM = some (S.1 19) := by
  obtain ⟨-, -, -, -, -, -, hM, hW, h, -⟩ := h
  unfold f_X12_deep
  rw [rb_lastOf hN hM, kC_p, h]
def rbHow (S : zHS) : Int32 := if S.1 12 < S.1 19 then (if S.1 11 < S.1 18 then 0 else 2) else 1
theorem rb_how (hN : 101 ≤ N) (h : rbK S SM SD nT nP L) (he : rbE S SM) : f_X1_how S = some (rbHow S) ∧ f_X12_how N SM = some (rbHow S) := by
  unfold f_X1_how f_X12_how rbHow
  rw [rb_deep hN h, kC_p, (rb_late hN h).1, ← he.2.2.1, ← he.1]
  by_cases c1 : S.1 12 < S.1 19
  · simp only [kB_p c1, kC_p, if_pos c1]
    by_cases c2 : S.1 11 < S.1 18
    · simp only [kB_p c2, if_pos c2]; exact ⟨trivial, trivial⟩
    · simp only [kB_n c2, if_neg c2]; exact ⟨trivial, trivial⟩
  · simp only [kB_n c1, if_neg c1]; exact ⟨trivial, trivial⟩
theorem rb_how3 : rbHow S = 0 ∨ rbHow S = 1 ∨ rbHow S = 2 := by
  unfold rbHow
  split
  · split
    · exact Or.inl rfl
    · exact Or.inr (Or.inr rfl)
  · exact Or.inr (Or.inl rfl)
theorem rb_has {a : Nat} (h7 : S.1 7 = nI nT) (hT : nT ≤ 7) (ht : a < nT) : f_X1_has S (nI a) = some 1 := by
  unfold f_X1_has
  rw [kB_n (nI_pos (by omega)), h7, kB_n (nI_ge ht (by omega)), kB_n (show ¬ (7 : Int32) ≤ nI a from nI_ge (a := a) (b := 7) (by omega) (by decide))]
theorem rb_has0 {a : Int32} (h7 : S.1 7 = nI nT) (ht : a < 0 ∨ nI nT ≤ a) : f_X1_has S a = some 0 := by
  unfold f_X1_has
  by_cases c : a < 0
  · rw [kB_p c]
  · rw [kB_n c, h7, kB_p (ht.resolve_left c)]
theorem rb_early (hN : 101 ≤ N) (h : rbK S SM SD nT nP L) (he : rbE S SM) (ht : t < nT) : ∃ ea : Int32, (ea = 0 ∨ ea = 1) ∧ (∀ pv, f_X4_grants pv S (nI t) = some ea) ∧ f_X12_isEarly N SM (nI t) = some ea := by
  have hT := h.1.2.2
  have hl := (rb_late hN h).1
  have hm := (h.2.2.1 t (by omega)).1
  refine ⟨if S.1 18 ≤ S.1 11 + S.2.1 0 t then 0 else 1, ?_, ?_, ?_⟩
  · split
    · exact Or.inl rfl
    · exact Or.inr rfl
  · intro pv
    unfold f_X4_grants
    rw [rb_has h.1.1 hT ht, kC_p, kB_n (by decide), kO_p (nI_in (by omega) (by decide)), nI_clamp (by omega), kL_p]
    by_cases c : S.1 18 ≤ S.1 11 + S.2.1 0 t
    · rw [kB_p c, if_pos c]
    · rw [kB_n c, if_neg c]
  · unfold f_X12_isEarly
    rw [kO_p (nI_in (by omega) (by decide)), nI_clamp (by omega), kL_p, hl, kC_p, ← hm, ← he.1]
    by_cases c : S.1 18 ≤ S.1 11 + S.2.1 0 t
    · rw [kB_p c, if_pos c]
    · rw [kB_n c, if_neg c]
theorem rb_lt2 (x : Int32) : (x < 2 ↔ x ≤ 1) ∧ (1 < x ↔ ¬ x < 2) := by
  have h2 : (2 : Int32).toInt = 2 := rfl
  have h1 : (1 : Int32).toInt = 1 := rfl
  simp only [Int32.lt_iff_toInt_lt, Int32.le_iff_toInt_le, h1, h2]
  omega
theorem rb_grants (hN : 101 ≤ N) (h : rbK S SM SD nT nP L) (he : rbE S SM) (hp : p < nP) (ht : t < nT) : ∃ (w : Nat) (pv : zPS) (r : Int32), S.2.2.1 p = some w ∧ plook SD w = some pv ∧ pv = (SM.2.1 11 p, nI p, SM.2.1 12 p) ∧ (r = 0 ∨ r = 1) ∧ f_v_grants pv S (nI t) = some r ∧ f_X12_gives N SM (nI p) (nI t) = some r := by
  obtain ⟨ea, ea2, eC, eM⟩ := rb_early (t := t) hN h he ht
  have hT := h.1.2.2
  have hP := h.2.1.2.2
  have hh : f_X1_has S (nI t) = some 1 := rb_has h.1.1 hT ht
  obtain ⟨hmi, hsw⟩ := h.2.2.1 t (by omega)
  have hha := (he.2.2.2.2.2.2.2 t (by omega)).1
  obtain ⟨w, k, v, w1, w2, k7, v9, w3, w4⟩ := h.2.2.2.2.2.1 p hp
  have hro := h.2.2.2.2.1
  obtain ⟨-, -, -, hno, hgi, hev, ⟨e, e1, e2⟩, -⟩ := he
  have in4 : ¬ (nI p < 0 ∨ 4 ≤ (nI p).toNatClampNeg) := nI_in (by omega) (by decide)
  have in7 : ¬ (nI t < 0 ∨ 7 ≤ (nI t).toNatClampNeg) := nI_in (by omega) (by decide)
  have clp : (nI p).toNatClampNeg = p := nI_clamp (by omega)
  have clt : (nI t).toNatClampNeg = t := nI_clamp (by omega)
  have jp : ¬ (nI p < 0 ∨ 4 ≤ p) := rb_in2 (by omega) (by decide)
  have jt : ¬ (nI t < 0 ∨ 7 ≤ t) := rb_in2 (by omega) (by decide)
  suffices hs : ∃ r : Int32, (r = 0 ∨ r = 1) ∧ f_v_grants (nI k, nI p, nI v) S (nI t) = some r ∧ f_X12_gives N SM (nI p) (nI t) = some r by
    obtain ⟨r, r1, r2, r3⟩ := hs
    exact ⟨w, (nI k, nI p, nI v), r, w1, w2, by rw [w3, w4], r1, r2, r3⟩
  unfold f_X12_gives f_v_grants
  try dsimp only
  rw [kO_p in4, clp, w3]
  have hk : k = 0 ∨ k = 1 ∨ k = 2 ∨ k = 3 ∨ k = 4 ∨ k = 5 ∨ k = 6 := by omega
  have d : ∀ a b : Nat, a < 7 → b < 7 → a ≠ b → ¬ nI a = nI b := fun a b ha hb n q => n ((nI_eq (by omega) (by omega)).mp q)
  rcases hk with rfl | rfl | rfl | rfl | rfl | rfl | rfl
  · refine ⟨ea, ea2, ?_, ?_⟩
    · rw [kB_n (by decide), kB_n (by decide), kB_n (by decide), kB_n (by decide), kB_n (by decide), kB_n (by decide), eC]
    · rw [kB_n (by decide), kB_n (by decide), kB_n (by decide), kB_n (by decide), kB_n (by decide), kB_n (by decide), eM, kC_p, kO_p ea2]
  · rw [kB_p (by decide), kB_p (by decide), eM, kC_p]
    unfold f_X6_grants
    try dsimp only
    simp only [eC, kC_p, hno]
    rcases ea2 with rfl | rfl
    · simp only [kB_00, kB_00]
      by_cases c : SM.1 5 < 2
      · simp only [kB_p c, kB_p ((rb_lt2 _).1.mp c)]
        exact ⟨0, Or.inl rfl, rfl, rfl⟩
      · simp only [kB_n c, kB_n (fun q => c ((rb_lt2 _).1.mpr q))]
        exact ⟨1, Or.inr rfl, rfl, rfl⟩
    · simp only [kB_10, kB_10]
      exact ⟨1, Or.inr rfl, rfl, rfl⟩
  · rw [kB_n (by decide), kB_p (by decide), kB_n (by decide), kB_p (by decide), eM, kC_p]
    unfold f_X7_grants
    try dsimp only
    simp only [eC, kC_p, hgi, w4]
    rcases ea2 with rfl | rfl
    · simp only [kB_00, kB_00]
      exact ⟨0, Or.inl rfl, rfl, rfl⟩
    · simp only [kB_10, kB_10, kO_p jp, kO_p jt]
      by_cases c : nI v ≤ SM.1 6
      · simp only [kB_p c, kB_p c]
        exact ⟨0, Or.inl rfl, rfl, rfl⟩
      · simp only [kB_n c, kB_n c]
        exact ⟨1, Or.inr rfl, rfl, rfl⟩
  · rw [kB_n (by decide), kB_n (by decide), kB_p (by decide), kB_n (by decide), kB_n (by decide), kB_p (by decide)]
    unfold f_X8_grants
    try dsimp only
    simp only [hh, kC_p, kB_10, kO_p in7, clt, kO_p jp, kO_p jt, kO_p jp, kO_p jt, w4, hmi]
    by_cases c : nI v < SM.2.1 8 t
    · simp only [kB_p c, kB_p c]
      exact ⟨0, Or.inl rfl, rfl, rfl⟩
    · simp only [kB_n c, kB_n c]
      exact ⟨1, Or.inr rfl, rfl, rfl⟩
  · rw [kB_n (by decide), kB_n (by decide), kB_n (by decide), kB_p (by decide), kB_n (by decide), kB_n (by decide), kB_n (by decide), kB_p (by decide), eM, kC_p]
    unfold f_X3_grants f_X6_grants
    try dsimp only
    simp only [eC, kC_p, hno, hh]
    rcases ea2 with rfl | rfl
    · simp only [kB_00, kB_00]
      by_cases c : SM.1 5 < 2
      · simp only [kB_p c, kC_p, kB_00, kC_p, kB_10, kO_p in7, clt, kB_n (fun q => (rb_lt2 _).2.mp q c), kO_p jp, kO_p jt, hsw]
        by_cases c2 : SM.2.1 9 t ≤ 6
        · simp only [kB_p c2, kB_p c2]
          exact ⟨0, Or.inl rfl, rfl, rfl⟩
        · simp only [kB_n c2, kB_n c2]
          exact ⟨1, Or.inr rfl, rfl, rfl⟩
      · simp only [kB_n c, kC_p, kB_10, kB_p ((rb_lt2 _).2.mpr c)]
        exact ⟨1, Or.inr rfl, rfl, rfl⟩
    · simp only [kB_10, kC_p, kB_10, kB_10]
      exact ⟨1, Or.inr rfl, rfl, rfl⟩
  · rw [kB_n (by decide), kB_n (by decide), kB_n (by decide), kB_n (by decide), kB_p (by decide), kB_n (by decide), kB_n (by decide), kB_n (by decide), kB_n (by decide), kB_p (by decide), eM, kC_p]
    unfold f_X0_grants f_X7_grants
    try dsimp only
    simp only [eC, kC_p, hgi, w4, hh]
    rcases ea2 with rfl | rfl
    · simp only [kB_00, kC_p, kB_00, kB_00]
      exact ⟨0, Or.inl rfl, rfl, rfl⟩
    · simp only [kB_10, kB_10, kO_p jp, kO_p jt]
      by_cases c : nI v ≤ SM.1 6
      · simp only [kB_p c, kB_p c, kC_p, kB_00]
        exact ⟨0, Or.inl rfl, rfl, rfl⟩
      · simp only [kB_n c, kB_n c, kC_p, kB_10, kC_p, kB_10, kO_p in7, clt, kO_p jp, kO_p jt, kO_p jp, kO_p jt, kL_p, kL_p, hha]
        by_cases c2 : (3 : Int32) * nI v < SM.2.1 10 t
        · simp only [kB_p c2, kB_p c2]
          exact ⟨0, Or.inl rfl, rfl, rfl⟩
        · simp only [kB_n c2, kB_n c2]
          exact ⟨1, Or.inr rfl, rfl, rfl⟩
  · rw [kB_n (by decide), kB_n (by decide), kB_n (by decide), kB_n (by decide), kB_n (by decide), kB_p (by decide), kB_n (by decide), kB_n (by decide), kB_n (by decide), kB_n (by decide), kB_n (by decide), kB_p (by decide)]
    unfold f_X9_grants f_X8_grants
    try dsimp only
    have e4 : (4 : Int32) = nI 4 := rfl
    have hv : (4 : Int32) * nI p + (nI e - nI e / 4 * 4) = nI (4 * p + e % 4) := by
      rw [e4, pk_mul, pk_rem (by omega) (by decide) (by decide), nI_add]
    have hi : 4 * p + e % 4 < 16 := by omega
    simp only [kL_p]
    simp only [hh, kC_p, kB_10, kO_p in7, clt, kO_p jp, kO_p jt, kO_p jp, kO_p jt, w4, hmi, hev, e2, hv]
    obtain ⟨hr1, hr2⟩ := hro _ hi
    by_cases c : nI v < SM.2.1 8 t
    · simp only [kB_p c, kB_p c, kC_p, kB_00]
      exact ⟨0, Or.inl rfl, rfl, rfl⟩
    · simp only [kB_n c, kB_n c, kC_p, kB_10, kB_n (nI_pos (show 4 * p + e % 4 < 2 ^ 31 by omega)), kB_n (show ¬ Int32.ofNat 16 ≤ nI (4 * p + e % 4) from nI_ge hi (by decide)), kO_p (nI_in hi (by decide)), kO_p (rb_in2 hi (by decide)), nI_clamp (show 4 * p + e % 4 < 2 ^ 31 by omega), hr1]
      rcases hr2 with hr2 | hr2
      · simp only [hr2, kB_00, kB_10]
        exact ⟨0, Or.inl rfl, rfl, rfl⟩
      · simp only [hr2, kB_10, kB_00]
        exact ⟨1, Or.inr rfl, rfl, rfl⟩
end RBE
