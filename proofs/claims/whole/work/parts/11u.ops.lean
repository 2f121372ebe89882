/-! B: the plain calls on both sides -/
section RBU
variable {N nT nP p : Nat} {L : List rbCl} {HS : List (Nat × List rbCl)} {SX SR : zRS} {SN SK S : zHS} {ST : zTS} {SM : zMS} {SV : Nat → Nat → Int64} {SG SY SZ : Nat → Int32} {SD : List (Nat × zPS)} {SE : List ((Nat → Nat) × zQS)}
theorem rb_at (hn : rbNow SN SM SD SE nT nP L) (x1 x2 : Int32) : ∃ r, f_X11_at SX SN SK ST S SR SV SG SY SZ SD SE x1 x2 = some r ∧ f_X12_at SM x1 x2 = some r := by
  have hT := hn.1.1.2.2
  unfold f_X11_at f_X12_at
  rcases rb_tc hn.1 x1 with ⟨e1, e2⟩ | ⟨t, ht, rfl, e1, e2⟩
  · rw [e1, e2, kC_p, kC_p, kB_00, kB_00]; exact ⟨_, rfl, rfl⟩
  · obtain ⟨c1, c2⟩ := hn.1.2.2.1 t (by omega)
    have c3 := (hn.2.1.2.2.2.2.2.2.2 t (by omega)).1
    rw [e1, e2, kC_p, kC_p, kB_10, kB_10]
    simp only [nI_clamp (show t < 2 ^ 31 by omega), kO_p (rb_in2 (show t < 7 by omega) (show 7 < 2 ^ 31 by decide))]
    by_cases y0 : x2 = 0
    · rw [kB_p y0, kB_p y0, c1]; exact ⟨_, rfl, rfl⟩
    · rw [kB_n y0, kB_n y0]
      by_cases y1 : x2 = 1
      · rw [kB_p y1, kB_p y1, c2]; exact ⟨_, rfl, rfl⟩
      · rw [kB_n y1, kB_n y1]
        by_cases y2 : x2 = 2
        · rw [kB_p y2, kB_p y2, c3]; exact ⟨_, rfl, rfl⟩
        · rw [kB_n y2, kB_n y2]; exact ⟨_, rfl, rfl⟩
theorem rb_told (hN : 101 ≤ N) (hn : rbNow SN SM SD SE nT nP L) (x1 : Int32) : ∃ r, f_X11_told SX SN SK ST S SR SV SG SY SZ SD SE x1 = some r ∧ f_X12_told N SM x1 = some r := by
  obtain ⟨w1, w2⟩ := rb_how hN hn.1 hn.2.1
  have hl := (rb_late hN hn.1).1
  have hd := rb_deep hN hn.1
  obtain ⟨-, ⟨g1, -, g3, g4, g5, g6, -⟩, -, ⟨o, o1, o2, -⟩, -⟩ := hn
  unfold f_X11_told f_X12_told
  simp only [w1, w2, hl, hd, kC_p, g1, g3, g4, g5, g6, o1, o2]
  by_cases y0 : x1 = 0
  · simp only [kB_p y0]; exact ⟨_, rfl, rfl⟩
  · simp only [kB_n y0]
    by_cases y1 : x1 = 1
    · simp only [kB_p y1]; exact ⟨_, rfl, rfl⟩
    · simp only [kB_n y1]
      by_cases y2 : x1 = 2
      · simp only [kB_p y2]; exact ⟨_, rfl, rfl⟩
      · simp only [kB_n y2]
        by_cases y3 : x1 = 3
        · simp only [kB_p y3]; exact ⟨_, rfl, rfl⟩
        · simp only [kB_n y3]
          by_cases y4 : x1 = 4
          · simp only [kB_p y4]; exact ⟨_, rfl, rfl⟩
          · simp only [kB_n y4]
            by_cases y5 : x1 = 5
            · simp only [kB_p y5]; exact ⟨_, rfl, rfl⟩
            · simp only [kB_n y5]
              by_cases y6 : x1 = 6
              · simp only [kB_p y6]; exact ⟨_, rfl, rfl⟩
              · simp only [kB_n y6]
                by_cases y7 : x1 = 7
                · simp only [kB_p y7]; exact ⟨_, rfl, rfl⟩
                · simp only [kB_n y7]
                  by_cases y8 : x1 = 8
                  · simp only [kB_p y8]; exact ⟨_, rfl, rfl⟩
                  · simp only [kB_n y8]; exact ⟨_, rfl, rfl⟩
theorem rb_of (hN : 101 ≤ N) (hn : rbNow SN SM SD SE nT nP L) (x1 x2 : Int32) : ∃ (r : Int32) (SE' : List ((Nat → Nat) × zQS)) (SM' : zMS), f_X11_of N SX SN SK ST S SR SV SG SY SZ SD SE x1 x2 = some (r, SE') ∧ f_X12_of N SM x1 x2 = some (r, SM') ∧ rbJ SM SM' ∧ rbSE SE SE' := by
  have hT := hn.1.1.2.2
  have hP := hn.1.2.1.2.2
  unfold f_X11_of f_X12_of f_X12_of_b19
  have base : ∀ v : Int32, ∃ (r : Int32) (SE' : List ((Nat → Nat) × zQS)) (SM' : zMS), some (v, SE) = some (r, SE') ∧ some (v, SM) = some (r, SM') ∧ rbJ SM SM' ∧ rbSE SE SE' := fun v => ⟨_, _, _, rfl, rfl, rbJ.rf, rbSE.rf⟩
  rcases rb_pc hn.1 x1 with ⟨e1, e2⟩ | ⟨p, w, k, v, hp, rfl, e1, e3, e4, k7, v9, e5, e6, e2⟩
  · rw [e1, kC_p, kN_p0, e2, kC_p, kB_00]; exact base _
  · rw [e1, kC_p, kN_p1, e2, kC_p, kB_10, e4]
    simp only [nI_clamp (show p < 2 ^ 31 by omega), kO_p (rb_in2 (show p < 4 by omega) (show 4 < 2 ^ 31 by decide)), e5, e6, kC_p]
    by_cases c : x2 < 0
    · have n0 : ¬ x2 = 0 := by intro e; subst e; exact absurd c (by decide)
      have n1 : ¬ x2 = 1 := by intro e; subst e; exact absurd c (by decide)
      have n10 : x2 < 10 := Int32.lt_trans c (by decide)
      rw [kB_p c, kB_n n0, kB_n n1, kL_p, rb_in0 (Or.inl n10), kC_p, kB_00]; exact base _
    · obtain ⟨y, hy, rfl⟩ := nI_of c
      have l1 : (nI y = 0) ↔ y = 0 := nI_eq (b := 0) hy (by decide)
      have l2 : (nI y = 1) ↔ y = 1 := nI_eq (b := 1) hy (by decide)
      have l40 : (nI y < 40) ↔ y < 40 := nI_ltI (b := 40) hy (by decide)
      have l10 : (nI y < 10) ↔ y < 10 := nI_ltI (b := 10) hy (by decide)
      have l39 : (nI y ≤ 39) ↔ y ≤ 39 := nI_leI (b := 39) hy (by decide)
      have l20 : ((20 : Int32) ≤ nI y) ↔ 20 ≤ y := nI_leI (a := 20) (by decide) hy
      have l30 : ((30 : Int32) ≤ nI y) ↔ 30 ≤ y := nI_leI (a := 30) (by decide) hy
      have e10 : (10 : Int32) = nI 10 := rfl
      have em : nI y - nI y / 10 * 10 = nI (y % 10) := by rw [e10, pk_rem hy (by decide) (by decide)]
      rw [kB_n c]
      by_cases c40 : y < 40
      · rw [kB_p (l40.mpr c40)]
        by_cases y0 : y = 0
        · simp only [kB_p (l1.mpr y0)]; exact base (nI k)
        · simp only [kB_n (fun q => y0 (l1.mp q))]
          by_cases y1 : y = 1
          · simp only [kB_p (l2.mpr y1)]; exact base (nI v)
          · simp only [kB_n (fun q => y1 (l2.mp q)), kL_p]
            rw [em]
            by_cases c10 : y < 10
            · rw [kB_p (l10.mpr c10), rb_in0 (Or.inl (l10.mpr c10)), kC_p, kB_00]; exact base _
            · rw [kB_n (fun q => c10 (l10.mp q)), rb_in1 (fun q => c10 (l10.mp q)) (l39.mpr (by omega)), kC_p, kB_10]
              rcases rb_tc hn.1 (nI (y % 10)) with ⟨t1, t2⟩ | ⟨t, ht, et, t1, t2⟩
              · rw [t1, t2, kC_p, kC_p, kB_00, kB_00]; exact base _
              · rw [t1, t2, kC_p, kC_p, kB_10, kB_10, et]
                have hf := fun w0 d hw0 => rb_sumOf (w := w0) (d := d) hN (show p < 4 by omega) (show t < 7 by omega) hw0 hn.1.2.2.2.2.2.2.1 hn.1.2.2.2.2.2.2.2.1
                have hj : ∀ g : Nat → Int32, rbJ SM (mSA SM 31 g) := fun g => ⟨fun _ _ => rfl, fun k hk => mSA_o _ _ (by intro e; subst e; exact hk (by decide)), fun _ _ => by rw [mSA_o _ _ (by decide)], rfl⟩
                by_cases c20 : 20 ≤ y
                · rw [kB_p (l20.mpr c20), kB_p (l20.mpr c20)]
                  by_cases c30 : 30 ≤ y
                  · obtain ⟨SE', m1, m2⟩ := rb_moved hN hn.1 hn.2.1 hp ht hn.2.2.1 e3 (r := 0) (Or.inl rfl)
                    obtain ⟨g, g1⟩ := hf 1 2 (Or.inr rfl)
                    rw [kB_p (l30.mpr c30), kB_p (l30.mpr c30), m1, kD_p, g1, kD_p, if_pos rfl]
                    exact ⟨_, _, _, rfl, rfl, hj g, m2⟩
                  · obtain ⟨SE', m1, m2⟩ := rb_moved hN hn.1 hn.2.1 hp ht hn.2.2.1 e3 (r := 1) (Or.inr rfl)
                    obtain ⟨g, g1⟩ := hf 0 4 (Or.inl rfl)
                    rw [kB_n (fun q => c30 (l30.mp q)), kB_n (fun q => c30 (l30.mp q)), m1, kD_p, g1, kD_p, if_neg (by decide)]
                    exact ⟨_, _, _, rfl, rfl, hj g, m2⟩
                · obtain ⟨w', pv, r, r1, r2, r3, r4, r5, r6⟩ := rb_grants hN hn.1 hn.2.1 hp ht
                  rw [e3] at r1
                  cases r1
                  rw [e4] at r2
                  cases r2
                  rw [kB_n (fun q => c20 (l20.mp q)), kB_n (fun q => c20 (l20.mp q)), r5, r6, kC_p, kC_p]
                  rcases r4 with rfl | rfl
                  · rw [kB_00, kB_00]; exact base _
                  · rw [kB_10, kB_10]; exact base _
      · have y0 : ¬ y = 0 := by omega
        have y1 : ¬ y = 1 := by omega
        rw [kB_n (fun q => c40 (l40.mp q)), kB_n (fun q => y0 (l1.mp q)), kB_n (fun q => y1 (l2.mp q)), kL_p, rb_in0 (Or.inr (fun q => c40 (by have := l39.mp q; omega))), kC_p, kB_00]; exact base _
theorem rb_will_l (hN : 101 ≤ N) {t : Nat} (ht : t < nT) (hn : rbNow SN SM SD SE nT nP L) : ∀ (j x n n' : Nat) (b : Int32), x + j = nP → j < n → j < n' → ∃ r, f_X11_will_l17 N SX SN SK ST S SR SV SG SY SZ SD SE n (nI t) b (nI x) = some r ∧ f_X12_will_l14 N SM n' (nI t) b (nI x) = some r
  | j, x, 0, n', b, _, h, _ => by omega
  | j, x, n + 1, 0, b, _, _, h => by omega
  | 0, x, n + 1, n' + 1, b, hx, _, _ => by
    have hP := hn.1.2.1
    rw [s_X11_will_l17, s_X12_will_l14]
    show ∃ r, kB _ _ _ = _ ∧ kB _ _ _ = _
    rw [hP.1, hP.2.1, kB_p (nI_le (by omega) (by omega)), kB_p (nI_le (by omega) (by omega))]; exact ⟨_, rfl, rfl⟩
  | j + 1, x, n + 1, n' + 1, b, hx, hn1, hn2 => by
    have hP := hn.1.2.1
    obtain ⟨w, e1, e2, e3⟩ := rb_per hn.1 (show x < nP by omega)
    obtain ⟨w', pv, r, r1, r2, r3, r4, r5, r6⟩ := rb_grants hN hn.1 hn.2.1 (show x < nP by omega) ht
    rw [e1] at r1
    cases r1
    have ih := fun b => rb_will_l hN ht hn j (x + 1) n n' b (by omega) (by omega) (by omega)
    rw [s_X11_will_l17, s_X12_will_l14]
    show ∃ r, kB _ _ _ = _ ∧ kB _ _ _ = _
    rw [hP.1, hP.2.1, kB_n (nI_ge (by omega) (by omega)), kB_n (nI_ge (by omega) (by omega)), e2, kC_p, kN_p1, r2, kC_p, r5, r6, kC_p, kC_p]
    simp only [kL_p, nI_1, Int32.or_zero]
    rcases r4 with rfl | rfl
    · rw [kB_00, kB_00]; exact ih b
    · rw [kB_10, kB_10]; exact ih _
theorem rb_will (hN : 101 ≤ N) (hn : rbNow SN SM SD SE nT nP L) (x1 : Int32) : ∃ r, f_X11_will N SX SN SK ST S SR SV SG SY SZ SD SE x1 = some r ∧ f_X12_will N SM x1 = some r := by
  have hP := hn.1.2.1.2.2
  unfold f_X11_will f_X12_will
  rcases rb_tc hn.1 x1 with ⟨e1, e2⟩ | ⟨t, ht, rfl, e1, e2⟩
  · rw [e1, e2, kC_p, kC_p, kB_00, kB_00]; exact ⟨_, rfl, rfl⟩
  · rw [e1, e2, kC_p, kC_p, kB_10, kB_10]
    exact rb_will_l hN ht hn nP 0 N N 0 (by omega) (by omega) (by omega)
theorem rb_count (h : rbAll SX SN SK SR SV SG SD SE SM) (x1 : Int32) : ∃ r, f_X11_count SX SN SK ST S SR SV SG SY SZ SD SE x1 = some r ∧ f_X12_count SM x1 = some r := by
  obtain ⟨nT, nP, L, HS, a, b, -, -, ⟨n, -, n1, n2, -⟩, ⟨r, -, r1, r2, -⟩, -, -⟩ := h
  obtain ⟨⟨⟨a1, a2, -⟩, ⟨b1, b2, -⟩, -⟩, -, -, -, -, -, -, -, -, ⟨hh, -, h1, h2⟩, ⟨k, -, k1, k2, -⟩, -⟩ := a
  unfold f_X11_count f_X12_count
  have c20 : Int32.toNatClampNeg 20 = 20 := rfl
  rw [c20, kO_p (by decide), r1, r2, n1, n2, k1, k2, h1, h2, b.2.1, b.2.2.1, a1, a2, b1, b2]
  by_cases y0 : x1 = 0
  · rw [kB_p y0]; exact ⟨_, rfl, rfl⟩
  · rw [kB_n y0]
    by_cases y1 : x1 = 1
    · rw [kB_p y1]; exact ⟨_, rfl, rfl⟩
    · rw [kB_n y1]
      by_cases y2 : x1 = 2
      · rw [kB_p y2]; exact ⟨_, rfl, rfl⟩
      · rw [kB_n y2]
        by_cases y3 : x1 = 3
        · rw [kB_p y3]; exact ⟨_, rfl, rfl⟩
        · rw [kB_n y3]
          by_cases y4 : x1 = 4
          · rw [kB_p y4]; exact ⟨_, rfl, rfl⟩
          · rw [kB_n y4]
            by_cases y5 : x1 = 5
            · rw [kB_p y5]; exact ⟨_, rfl, rfl⟩
            · rw [kB_n y5]
              by_cases y6 : x1 = 6
              · rw [kB_p y6]; exact ⟨_, rfl, rfl⟩
              · rw [kB_n y6]; exact ⟨_, rfl, rfl⟩
theorem rb_trace (h : rbTg SG SM) (x1 : Int32) : ∃ r, f_X11_trace SX SN SK ST S SR SV SG SY SZ SD SE x1 = some r ∧ f_X12_trace SM x1 = some r := by
  obtain ⟨r, r40, r1, r2, r3⟩ := h
  have c20 : Int32.toNatClampNeg 20 = 20 := rfl
  unfold f_X11_trace f_X12_trace
  by_cases c : x1 < 0
  · rw [kB_p c, rb_in0 (Or.inl c), kC_p, kB_00]; exact ⟨_, rfl, rfl⟩
  · obtain ⟨y, hy, rfl⟩ := nI_of c
    have l20 : ((20 : Int32) ≤ nI y) ↔ 20 ≤ y := nI_leI (a := 20) (by decide) hy
    have l19 : (nI y ≤ 19) ↔ y ≤ 19 := nI_leI (b := 19) hy (by decide)
    rw [kB_n c, c20, kO_p (by decide), r1, r2]
    by_cases d : 20 ≤ y
    · rw [kB_p (l20.mpr d), rb_in0 (Or.inr (fun q => by have := l19.mp q; omega)), kC_p, kB_00]; exact ⟨_, rfl, rfl⟩
    · rw [kB_n (fun q => d (l20.mp q)), rb_in1 c (l19.mpr (by omega)), kC_p, kB_10]
      by_cases e : y < r
      · rw [kB_p (nI_lt e (by omega)), kB_n (nI_ge e (by omega)), kO_p (nI_in (by omega) (by decide)), kO_p (nI_in (by omega) (by decide)), nI_clamp (by omega), r3 y (by omega) e]; exact ⟨_, rfl, rfl⟩
      · rw [kB_n (nI_nlt (by omega) (by omega)), kB_p (nI_le (by omega) (by omega))]; exact ⟨_, rfl, rfl⟩
theorem rb_taken_l {kk k w : Nat} (hN : 101 ≤ N) (h1 : kk < 7) (h2 : k < 7) {v : zPS} (hv : plook SD w = some v) (hv1 : v.1 = nI kk) : f_X11_taken_l38 N SX SN SK ST S SR SV SG SY SZ SD SE N (nI k) w (nI kk) 0 = some (if k = 0 ∨ kk = k ∨ k = 1 ∧ kk = 4 ∨ k = 2 ∧ kk = 5 ∨ k = 3 ∧ kk = 6 then nI kk else -12) := by
  obtain ⟨M, rfl⟩ : ∃ M, N = M + 8 := ⟨N - 8, by omega⟩
  have yes : kC (plook SD w) (fun pv18 => some ((pv18.1))) = some (nI kk) := by rw [hv, kC_p, hv1]
  have c1 : kk = 0 ∨ kk = 1 ∨ kk = 2 ∨ kk = 3 ∨ kk = 4 ∨ kk = 5 ∨ kk = 6 := by omega
  have c2 : k = 0 ∨ k = 1 ∨ k = 2 ∨ k = 3 ∨ k = 4 ∨ k = 5 ∨ k = 6 := by omega
  rcases c1 with rfl | rfl | rfl | rfl | rfl | rfl | rfl <;> rcases c2 with rfl | rfl | rfl | rfl | rfl | rfl | rfl <;> first | exact yes | rfl
theorem rb_taken (hN : 101 ≤ N) (hn : rbNow SN SM SD SE nT nP L) (x1 x2 : Int32) : ∃ r, f_X11_taken N SX SN SK ST S SR SV SG SY SZ SD SE x1 x2 = some r ∧ f_X12_taken SM x1 x2 = some r := by
  have hP := hn.1.2.1.2.2
  unfold f_X11_taken f_X12_taken
  by_cases c : x2 < 0
  · rw [kB_p c, rb_in0 (Or.inl c), kC_p, kB_00]; exact ⟨_, rfl, rfl⟩
  · obtain ⟨k, hk, rfl⟩ := nI_of c
    have l7 : (nI k < 7) ↔ k < 7 := nI_ltI (b := 7) hk (by decide)
    have l6 : (nI k ≤ 6) ↔ k ≤ 6 := nI_leI (b := 6) hk (by decide)
    rw [kB_n c]
    by_cases d : k < 7
    · rw [kB_p (l7.mpr d), rb_in1 c (l6.mpr (by omega)), kC_p, kB_10]
      rcases rb_pc hn.1 x1 with ⟨e1, e2⟩ | ⟨p, w, kk, v, hp, rfl, e1, e3, e4, k7, v9, e5, e6, e2⟩
      · rw [e1, kC_p, kN_p0, e2, kC_p, kB_00]; exact ⟨_, rfl, rfl⟩
      · rw [e1, kC_p, kN_p1, e2, kC_p, kB_10, e4, kC_p, kO_p (nI_in (by omega) (by decide)), nI_clamp (by omega), e5, rb_taken_l hN k7 d e4 rfl]
        refine ⟨_, rfl, ?_⟩
        have c1 : kk = 0 ∨ kk = 1 ∨ kk = 2 ∨ kk = 3 ∨ kk = 4 ∨ kk = 5 ∨ kk = 6 := by omega
        have c2 : k = 0 ∨ k = 1 ∨ k = 2 ∨ k = 3 ∨ k = 4 ∨ k = 5 ∨ k = 6 := by omega
        rcases c1 with rfl | rfl | rfl | rfl | rfl | rfl | rfl <;> rcases c2 with rfl | rfl | rfl | rfl | rfl | rfl | rfl <;> rfl
    · rw [kB_n (fun q => d (l7.mp q)), rb_in0 (Or.inr (fun q => d (by have := l6.mp q; omega))), kC_p, kB_00]; exact ⟨_, rfl, rfl⟩
end RBU
