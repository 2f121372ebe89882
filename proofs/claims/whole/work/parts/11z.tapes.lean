/-! B: tapes -/
theorem lg_lt (x y : Int64) : (lg_cmp x y < 0 ↔ x.toInt < y.toInt) ∧ (0 ≤ lg_cmp x y ↔ y.toInt ≤ x.toInt) ∧ (0 < lg_cmp x y ↔ y.toInt < x.toInt) ∧ (lg_cmp x y ≤ 0 ↔ x.toInt ≤ y.toInt) := by
  unfold lg_cmp
  by_cases c : x > y
  · have c' : y.toInt < x.toInt := Int64.lt_iff_toInt_lt.mp c
    rw [if_pos c]
    refine ⟨⟨fun h => absurd h (by decide), fun h => by omega⟩, ⟨fun _ => by omega, fun _ => by decide⟩, ⟨fun _ => c', fun _ => by decide⟩, ⟨fun h => absurd h (by decide), fun h => by omega⟩⟩
  · have c' : ¬ y.toInt < x.toInt := fun h => c (Int64.lt_iff_toInt_lt.mpr h)
    rw [if_neg c]
    by_cases d : x = y
    · subst d
      rw [if_pos rfl]
      refine ⟨⟨fun h => absurd h (by decide), fun h => by omega⟩, ⟨fun _ => by omega, fun _ => by decide⟩, ⟨fun h => absurd h (by decide), fun h => by omega⟩, ⟨fun _ => by omega, fun _ => by decide⟩⟩
    · have d' : x.toInt ≠ y.toInt := fun h => d (Int64.toInt_inj.mp h)
      rw [if_neg d]
      refine ⟨⟨fun _ => by omega, fun _ => by decide⟩, ⟨fun h => absurd h (by decide), fun h => by omega⟩, ⟨fun h => absurd h (by decide), fun h => by omega⟩, ⟨fun _ => by omega, fun _ => by decide⟩⟩
theorem rb_l2 {i n : Int32} : (i.toInt64 + n.toInt64).toInt = i.toInt + n.toInt := by
  have h1 := i.toInt_lt
  have h2 := i.le_toInt
  have h3 := n.toInt_lt
  have h4 := n.le_toInt
  rw [Int64.toInt_add, Int32.toInt_toInt64, Int32.toInt_toInt64]
  apply Int.bmod_eq_of_le <;> omega
theorem rb_zsub {z : Nat} {n : Int32} (hz : z ≤ 60) (hn : 0 ≤ n.toInt) : (nI z - n).toInt = (z : Int) - n.toInt := by
  have h3 := n.toInt_lt
  rw [Int32.toInt_sub, nI_toInt (by omega)]
  apply Int.bmod_eq_of_le <;> omega
section RBTP
variable {N : Nat} {SX SR : zRS} {SN SK S : zHS} {ST : zTS} {SM SM' : zMS} {SV SV' : Nat → Nat → Int64} {SG SY SZ : Nat → Int32} {SD : List (Nat × zPS)} {SE : List ((Nat → Nat) × zQS)}
theorem rb_tape6 (x : Int32) : ((x < 0 ∨ ¬ x < 6) ∧ f_X12_isTape SM x = some 0) ∨ ∃ t : Nat, t < 6 ∧ x = nI t ∧ f_X12_isTape SM x = some 1 := by
  unfold f_X12_isTape
  by_cases c : x < 0
  · left
    rw [rb_in0 (Or.inl c), kC_p, kO_p (by decide)]
    exact ⟨Or.inl c, rfl⟩
  · obtain ⟨t, ht, rfl⟩ := nI_of c
    have l6 : (nI t < 6) ↔ t < 6 := nI_ltI (b := 6) ht (by decide)
    have l5 : (nI t ≤ 5) ↔ t ≤ 5 := nI_leI (b := 5) ht (by decide)
    by_cases d : t < 6
    · right
      refine ⟨t, d, rfl, ?_⟩
      rw [rb_in1 c (l5.mpr (by omega)), kC_p, kO_p (by decide)]
    · left
      rw [rb_in0 (Or.inr (fun q => d (by have := l5.mp q; omega))), kC_p, kO_p (by decide)]
      exact ⟨Or.inr (fun q => d (l6.mp q)), rfl⟩
theorem rb_sort {t : Nat} (h : SX.2 5 t = -1 ∨ ∃ k : Nat, k < 5 ∧ SX.2 5 t = nI k) : (SX.2 5 t < 0 ∧ ¬ 0 ≤ SX.2 5 t ∧ SX.2 5 t = -1) ∨ ∃ k : Nat, k < 5 ∧ SX.2 5 t = nI k ∧ ¬ SX.2 5 t < 0 ∧ 0 ≤ SX.2 5 t := by
  rcases h with h | ⟨k, hk, h⟩
  · left
    rw [h]
    exact ⟨by decide, by decide, rfl⟩
  · right
    exact ⟨k, hk, h, by rw [h]; exact nI_pos (by omega), by rw [h]; exact nI_pos' (by omega)⟩
theorem rb_holds {t z : Nat} (ht : t < 6) (hz : SX.2 6 t = nI z) (hz6 : z ≤ 60) (x : Int64) : f_X11_holds SX SN SK ST S SR SV SG SY SZ SD SE (nI t) x = some (if ¬ SX.2 5 t < 0 ∧ 0 ≤ x.toInt ∧ x.toInt < z then 1 else 0) := by
  unfold f_X11_holds
  have l0 : (0 : Int64).toInt = 0 := rfl
  obtain ⟨c1, -, -, -⟩ := lg_lt x 0
  obtain ⟨-, c2, -, -⟩ := lg_lt x (lN z)
  rw [lN_toInt (by omega)] at c2
  rw [l0] at c1
  rw [kB_n (nI_pos (by omega)), kB_n (show ¬ (6 : Int32) ≤ nI t from nI_ge (b := 6) ht (by decide)), kO_p (nI_in ht (by decide)), nI_clamp (by omega)]
  by_cases s : SX.2 5 t < 0
  · rw [kB_p s, if_neg (fun q => q.1 s)]
  · rw [kB_n s]
    simp only [kL_p]
    by_cases d : lg_cmp x 0 < 0
    · rw [kB_p d, if_neg (fun q => by have := c1.mp d; omega)]
    · rw [kB_n d, kO_p (rb_in2 ht (by decide)), hz, nI_l (by omega)]
      by_cases e : 0 ≤ lg_cmp x (lN z)
      · rw [kB_p e, if_neg (fun q => by have := c2.mp e; omega)]
      · rw [kB_n e, if_pos]
        refine ⟨s, ?_, ?_⟩
        · exact Int.not_lt.mp (fun q => d (c1.mpr q))
        · exact Int.not_le.mp (fun q => e (c2.mpr q))
theorem rb_read (h : rbTp SX SV SM) (x1 x2 : Int32) : ∃ r, f_X11_read SX SN SK ST S SR SV SG SY SZ SD SE x1 x2 = some r ∧ f_X12_read SM x1 x2 = some r := by
  unfold f_X11_read f_X12_read
  rcases rb_tape6 (SM := SM) x1 with ⟨q, e⟩ | ⟨t, ht, rfl, e⟩
  · have hh : ∀ x, f_X11_holds SX SN SK ST S SR SV SG SY SZ SD SE x1 x = some 0 := by
      intro x
      unfold f_X11_holds
      by_cases c : x1 < 0
      · rw [kB_p c]
      · rw [kB_n c, kB_p (Int32.not_lt.mp (q.resolve_left c))]
    rw [kL_p, hh, kC_p, kB_00, e, kC_p, kB_00]; exact ⟨_, rfl, rfl⟩
  · obtain ⟨h1, h2, ⟨z, z1, z2, z3⟩, h4⟩ := h t ht
    rw [kL_p, rb_holds ht z2 z1, kC_p, e, kC_p, kB_10, kO_p (nI_in ht (by decide)), kO_p (nI_in ht (by decide)), nI_clamp (show t < 2 ^ 31 by omega), h2, z3, Int32.toInt_toInt64, kO_p (rb_in2 ht (by decide))]
    rcases rb_sort h1 with ⟨s1, s2, s3⟩ | ⟨k, k5, s1, s2, s3⟩
    · rw [if_neg (fun q => q.1 s1), kB_00, kB_p s1]; exact ⟨_, rfl, rfl⟩
    · rw [kB_n s2, kL_p]
      by_cases c : x2 < 0
      · rw [rb_in0 (Or.inl c), kC_p, kB_00, if_neg, kB_00]
        · exact ⟨_, rfl, rfl⟩
        · intro q
          rw [Int32.lt_iff_toInt_lt] at c
          have : (0 : Int32).toInt = 0 := rfl
          omega
      · obtain ⟨i, hi, rfl⟩ := nI_of c
        rw [nI_toInt hi]
        by_cases d : i < z
        · have e60 : (60 : Int32) = nI 60 := rfl
          obtain ⟨z', rfl⟩ : ∃ z', z = z' + 1 := ⟨z - 1, by omega⟩
          rw [if_pos ⟨s2, by omega, by omega⟩, kB_10, nI_pred, rb_in1 c (nI_le (by omega) (by omega)), kC_p, kB_10, kO_p (nI_in (by omega) (by decide)), kL_p, kL_p, e60, pk_mul, nI_add, kO_p (nI_in (by omega) (by decide)), nI_clamp (by omega), nI_clamp (by omega), h4 i (by omega)]
          exact ⟨_, rfl, rfl⟩
        · rw [if_neg (fun q => by omega), kB_00, rb_in0 (Or.inr ?_), kC_p, kB_00]
          · exact ⟨_, rfl, rfl⟩
          · intro q
            have e1 : (1 : Int32) = nI 1 := rfl
            rw [Int32.le_iff_toInt_le, nI_toInt hi, e1, pk_sub_toInt (by omega) (by omega)] at q
            omega
theorem rb_cut {k : Nat} (hk : k < 5) (v : Int64) : ∃ r, f_X11_cut (nI k) v = some r ∧ f_X12_narrow SM (nI k) v = some r := by
  unfold f_X11_cut f_X12_narrow
  have hc : k = 0 ∨ k = 1 ∨ k = 2 ∨ k = 3 ∨ k = 4 := by omega
  rcases hc with rfl | rfl | rfl | rfl | rfl
  · rw [kB_p (by decide), kB_p (by decide)]; exact ⟨_, rfl, rfl⟩
  · rw [kB_n (by decide), kB_p (by decide), kB_n (by decide), kB_p (by decide)]; exact ⟨_, rfl, rfl⟩
  · rw [kB_n (by decide), kB_n (by decide), kB_p (by decide), kB_n (by decide), kB_n (by decide), kB_p (by decide)]; exact ⟨_, rfl, rfl⟩
  · rw [kB_n (by decide), kB_n (by decide), kB_n (by decide), kB_p (by decide), kB_n (by decide), kB_n (by decide), kB_n (by decide), kB_n (by decide)]; exact ⟨_, rfl, rfl⟩
  · rw [kB_n (by decide), kB_n (by decide), kB_n (by decide), kB_n (by decide), kB_n (by decide), kB_n (by decide), kB_n (by decide), kB_p (by decide)]
    simp only [kL_p]
    by_cases c : lg_cmp v 0 = 0
    · rw [kB_p c]; exact ⟨_, rfl, rfl⟩
    · rw [kB_n c]; exact ⟨_, rfl, rfl⟩
theorem rb_item (h : rbAll SX SN SK SR SV SG SD SE SM) (x1 x2 : Int32) (x3 : Int64) : ∃ r SV' SM', f_X11_item SX SN SK ST S SR SV SG SY SZ SD SE x1 x2 x3 = some (r, SV') ∧ f_X12_item SM x1 x2 x3 = some (r, SM') ∧ rbAll SX SN SK SR SV' SG SD SE SM' := by
  have h0 := h
  obtain ⟨nT, nP, L, HS, -, -, -, -, -, -, g, -⟩ := h
  unfold f_X11_item f_X12_item
  rcases rb_tape6 (SM := SM) x1 with ⟨q, e⟩ | ⟨t, ht, rfl, e⟩
  · rw [e, kC_p, kB_00]
    by_cases c : x1 < 0
    · rw [kB_p c]; exact ⟨_, _, _, rfl, rfl, h0⟩
    · rw [kB_n c, kB_n (q.resolve_left c)]; exact ⟨_, _, _, rfl, rfl, h0⟩
  · obtain ⟨h1, h2, ⟨z, z1, z2, z3⟩, h4⟩ := g t ht
    have jt : ¬ (nI t < 0 ∨ 6 ≤ t) := rb_in2 ht (by decide)
    rw [e, kC_p, kB_10, kB_n (nI_pos (by omega)), kB_p (show nI t < (6 : Int32) from nI_lt (b := 6) ht (by decide)), kO_p (nI_in ht (by decide)), kO_p (nI_in ht (by decide)), nI_clamp (show t < 2 ^ 31 by omega), h2, z3]
    simp only [kO_p jt]
    rcases rb_sort h1 with ⟨s1, s2, s3⟩ | ⟨k, k5, s1, s2, s3⟩
    · rw [kB_n s2, kB_n s2]; exact ⟨_, _, _, rfl, rfl, h0⟩
    · rw [kB_p s3, kB_p s3, kL_p, rb_holds ht z2 z1, kC_p, Int32.toInt_toInt64, kL_p]
      by_cases c : x2 < 0
      · rw [rb_in0 (Or.inl c), kC_p, kB_00, if_neg, kB_00]
        · exact ⟨_, _, _, rfl, rfl, h0⟩
        · intro q
          rw [Int32.lt_iff_toInt_lt] at c
          have : (0 : Int32).toInt = 0 := rfl
          omega
      · obtain ⟨i, hi, rfl⟩ := nI_of c
        rw [nI_toInt hi]
        by_cases d : i < z
        · have e60 : (60 : Int32) = nI 60 := rfl
          obtain ⟨z', rfl⟩ : ∃ z', z = z' + 1 := ⟨z - 1, by omega⟩
          obtain ⟨v, v1, v2⟩ := rb_cut (SM := SM) k5 x3
          rw [if_pos ⟨s2, by omega, by omega⟩, kB_10, nI_pred, rb_in1 c (nI_le (by omega) (by omega)), kC_p, kB_10, s1, v1, kC_p, kO_p (nI_in (by omega) (by decide)), kL_p, kL_p, kL_p, e60, pk_mul, nI_add, v2, kC_p, kO_p (nI_in (by omega) (by decide)), kL_p, nI_clamp (by omega), nI_clamp (by omega)]
          refine ⟨_, _, _, rfl, rfl, ?_⟩
          refine rbAll.o (SM := SM) (SR := SR) (SX := SX) (SV := SV) (SG := SG) (fun _ _ => rfl) (fun _ _ => rfl) rfl rfl (fun k => k) (fun k => k) (fun _ => ?_) h0
          intro t2 ht2
          obtain ⟨p1, p2, p3, p4⟩ := g t2 ht2
          refine ⟨p1, p2, p3, fun i2 hi2 => ?_⟩
          show va_up SV t (vp_updL (SV t) i v) t2 i2 = vp_updL (SM.2.2 74) (60 * t + i) v (60 * t2 + i2)
          by_cases q : t2 = t
          · subst q
            rw [va_up_self]
            by_cases q2 : i2 = i
            · subst q2; rw [pk_uLs, pk_uLs]
            · rw [pk_uLn q2, pk_uLn (by omega)]; exact p4 i2 hi2
          · rw [va_up_ne _ _ q, pk_uLn (by omega)]; exact p4 i2 hi2
        · rw [if_neg (fun q => by omega), kB_00, rb_in0 (Or.inr ?_), kC_p, kB_00]
          · exact ⟨_, _, _, rfl, rfl, h0⟩
          · intro q
            have e1 : (1 : Int32) = nI 1 := rfl
            rw [Int32.le_iff_toInt_le, nI_toInt hi, e1, pk_sub_toInt (by omega) (by omega)] at q
            omega
theorem rb_judge_l (hN : 101 ≤ N) {nT nP t z i : Nat} {L : List rbCl} (a : rbNow SN SM SD SE nT nP L) (g : rbTp SX SV SM) (ht : t < 6) (z2 : SX.2 6 t = nI z) (z1 : z ≤ 60) (hi : i < 2 ^ 31) : ∀ (j x n n' : Nat), x + j = nT → j < n → j < n' → ∃ r, f_X11_judge_l36 N SX SN SK ST S SR SV SG SY SZ SD SE n (nI t) (nI i) (nI x) = some r ∧ f_X12_judge_l34 N SM n' (nI t) (nI i) (nI x) = some r
  | j, x, 0, n', _, h, _ => by omega
  | j, x, n + 1, 0, _, _, h => by omega
  | 0, x, n + 1, n' + 1, hx, _, _ => by
    have hT := a.1.1
    rw [s_X11_judge_l36, s_X12_judge_l34]
    show ∃ r, kB _ _ _ = _ ∧ kB _ _ _ = _
    rw [hT.1, hT.2.1, kB_p (nI_le (by omega) (by omega)), kB_p (nI_le (by omega) (by omega))]; exact ⟨_, rfl, rfl⟩
  | j + 1, x, n + 1, n' + 1, hx, hn1, hn2 => by
    have hT := a.1.1
    obtain ⟨h1, h2, ⟨z', z1', z2', z3⟩, h4⟩ := g t ht
    have : z' = z := (nI_eq (by omega) (by omega)).mp (z2'.symm.trans z2)
    subst this
    have ha := (a.2.1.2.2.2.2.2.2.2 x (by omega)).1
    have ih := rb_judge_l hN a g ht z2 z1 hi j (x + 1) n n' (by omega) (by omega) (by omega)
    have e60 : (60 : Int32) = nI 60 := rfl
    rw [s_X11_judge_l36, s_X12_judge_l34]
    show ∃ r, kB _ _ _ = _ ∧ kB _ _ _ = _
    rw [hT.1, hT.2.1, kB_n (nI_ge (by omega) (by omega)), kB_n (nI_ge (by omega) (by omega))]
    simp only [kL_p]
    rw [rb_holds ht z2 z1, kC_p, rb_l2, nI_toInt hi, nI_toInt (show x < 2 ^ 31 by omega), kO_p (nI_in ht (by decide)), kO_p (nI_in ht (by decide)), kO_p (nI_in ht (by decide)), nI_clamp (show t < 2 ^ 31 by omega), h2, z3]
    rcases rb_sort h1 with ⟨s1, s2, s3⟩ | ⟨k, k5, s1, s2, s3⟩
    · rw [if_neg (fun q => q.1 s1), kB_00, kB_p s1]; exact ⟨_, rfl, rfl⟩
    · rw [kB_n s2, kB_n (nI_pos hi)]
      have e1 : (1 : Int32) = nI 1 := rfl
      have ez : nI i ≤ nI z' - nI x - 1 ↔ i + x < z' := by
        rw [Int32.le_iff_toInt_le, nI_toInt hi]
        have : (nI z' - nI x - 1).toInt = (z' : Int) - x - 1 := by
          rw [Int32.toInt_sub, pk_sub_toInt (by omega) (by omega)]
          have z0 : (1 : Int32).toInt = 1 := rfl
          rw [z0]
          apply Int.bmod_eq_of_le <;> omega
        rw [this]
        omega
      by_cases d : i + x < z'
      · rw [if_pos ⟨s2, by omega, by omega⟩, kB_10, kB_p (ez.mpr d), nI_add, kO_p (nI_in (by omega) (by decide)), kO_p (nI_in (by omega) (by decide)), e60, pk_mul, nI_add, nI_add, kO_p (nI_in (by omega) (by decide)), kO_p (nI_in (by omega) (by decide)), nI_clamp (by omega), nI_clamp (by omega), nI_clamp (by omega), ha, h4 (i + x) (by omega), Nat.add_assoc, nI_1]
        by_cases q : lg_cmp (SM.2.2 74 (60 * t + (i + x))) (SM.2.1 10 x).toInt64 = 0
        · rw [kB_p q, kB_p q]; exact ih
        · rw [kB_n q, kB_n q]; exact ⟨_, rfl, rfl⟩
      · rw [if_neg (fun q => by omega), kB_00, kB_n (fun q => d (ez.mp q))]; exact ⟨_, rfl, rfl⟩
theorem rb_judge (hN : 101 ≤ N) (h : rbAll SX SN SK SR SV SG SD SE SM) (x1 x2 : Int32) : ∃ r, f_X11_judge N SX SN SK ST S SR SV SG SY SZ SD SE x1 x2 = some r ∧ f_X12_judge N SM x1 x2 = some r := by
  obtain ⟨nT, nP, L, HS, a, -, -, -, -, -, g, -⟩ := h
  have hT := a.1.1
  unfold f_X11_judge f_X12_judge
  rcases rb_tape6 (SM := SM) x1 with ⟨q, e⟩ | ⟨t, ht, rfl, e⟩
  · rw [e, kC_p, kB_00]
    by_cases c : x1 < 0
    · rw [kB_p c]; exact ⟨_, rfl, rfl⟩
    · rw [kB_n c, kB_n (q.resolve_left c)]; exact ⟨_, rfl, rfl⟩
  · obtain ⟨h1, h2, ⟨z, z1, z2, z3⟩, h4⟩ := g t ht
    have jt : ¬ (nI t < 0 ∨ 6 ≤ t) := rb_in2 ht (by decide)
    have key : ∃ r, f_X11_judge_l36 N SX SN SK ST S SR SV SG SY SZ SD SE N (nI t) x2 0 = some r ∧ f_X12_judge_l34 N SM N (nI t) x2 0 = some r := by
      by_cases c : x2 < 0
      · obtain ⟨M, rfl⟩ : ∃ M, N = M + 1 := ⟨N - 1, by omega⟩
        rw [s_X11_judge_l36, s_X12_judge_l34]
        show ∃ r, kB _ _ _ = _ ∧ kB _ _ _ = _
        rw [hT.1, hT.2.1]
        by_cases c0 : nT = 0
        · subst c0
          rw [kB_p (by decide), kB_p (by decide)]; exact ⟨_, rfl, rfl⟩
        · have n0 : ¬ nI nT ≤ (0 : Int32) := nI_nle (by omega) (by omega)
          rw [kB_n n0, kB_n n0]
          simp only [kL_p]
          rw [rb_holds ht z2 z1, kC_p, rb_l2, kO_p (nI_in ht (by decide)), kO_p (nI_in ht (by decide)), kO_p (nI_in ht (by decide)), nI_clamp (show t < 2 ^ 31 by omega), h2]
          have c' := Int32.lt_iff_toInt_lt.mp c
          have z0 : (0 : Int32).toInt = 0 := rfl
          rw [if_neg (fun q => by omega), kB_00]
          by_cases s : SX.2 5 t < 0
          · rw [kB_p s]; exact ⟨_, rfl, rfl⟩
          · rw [kB_n s, kB_p c]; exact ⟨_, rfl, rfl⟩
      · obtain ⟨i, hi, rfl⟩ := nI_of c
        exact rb_judge_l hN a g ht z2 z1 hi nT 0 N N (by omega) (by omega) (by omega)
    obtain ⟨r, k1, k2⟩ := key
    rw [e, kC_p, kB_10, kB_n (nI_pos (by omega)), kB_p (show nI t < (6 : Int32) from nI_lt (b := 6) ht (by decide)), kO_p (nI_in ht (by decide)), kO_p (nI_in ht (by decide)), kO_p (nI_in ht (by decide)), kO_p (nI_in ht (by decide)), nI_clamp (show t < 2 ^ 31 by omega), h2, k1, k2]
    by_cases s : SX.2 5 t < 0
    · simp only [kB_p s]; exact ⟨_, rfl, rfl⟩
    · simp only [kB_n s]
      by_cases s3 : SX.2 5 t = 3
      · simp only [kB_p s3]; exact ⟨_, rfl, rfl⟩
      · simp only [kB_n s3]; exact ⟨_, rfl, rfl⟩
end RBTP
