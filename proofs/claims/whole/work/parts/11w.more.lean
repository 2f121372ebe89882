/-! B: thing, parent, ask -/
section RBMO
variable {N nT nP p : Nat} {L : List rbCl} {HS : List (Nat × List rbCl)} {SX SX' SR SR' : zRS} {SN SN' SK S : zHS} {ST : zTS} {SM SM' : zMS} {SV SV' : Nat → Nat → Int64} {SG SG' SY SZ : Nat → Int32} {SD SD' : List (Nat × zPS)} {SE SE' : List ((Nat → Nat) × zQS)} {nT' nP' : Nat}
theorem rb_thing (h : rbAll SX SN SK SR SV SG SD SE SM) (x1 x2 : Int32) : ∃ r SN' SM', f_X11_thing SX SN SK ST S SR SV SG SY SZ SD SE x1 x2 = some (r, SN') ∧ f_X12_thing SM x1 x2 = some (r, SM') ∧ rbAll SX SN' SK SR SV SG SD SE SM' := by
  have h0 := h
  obtain ⟨nT, nP, L, HS, a, b, c, d, e, f, g, l⟩ := h
  have hT := a.1.1
  unfold f_X11_thing f_X12_thing
  by_cases c1 : x1 < 1
  · rw [kB_p c1, rb_in0 (Or.inl c1), kC_p, kB_00]; exact ⟨_, _, _, rfl, rfl, h0⟩
  · rw [kB_n c1]
    by_cases c2 : 20 < x1
    · rw [kB_p c2, rb_in0 (Or.inr (Int32.not_le.mpr c2)), kC_p, kB_00]; exact ⟨_, _, _, rfl, rfl, h0⟩
    · have hx0 : ¬ x1 < 0 := fun q => c1 (Int32.lt_trans q (by decide))
      obtain ⟨m, hm, rfl⟩ := nI_of2 (M := 20) (n := 20) rfl hx0 (Int32.not_lt.mp c2)
      have hm1 : 1 ≤ m := by
        rw [show (1 : Int32) = nI 1 from rfl, nI_ltI (by omega) (by omega)] at c1
        omega
      rw [kB_n c2, rb_in1 c1 (Int32.not_lt.mp c2), kC_p, kB_10]
      by_cases c3 : x2 < 0
      · rw [kB_p c3, rb_in0 (Or.inl c3), kC_p, kB_00]; exact ⟨_, _, _, rfl, rfl, h0⟩
      · rw [kB_n c3]
        by_cases c4 : x2 ≤ 9
        · rw [kB_p c4, rb_in1 c3 c4, kC_p, kB_10, hT.1, hT.2.1]
          by_cases q : nT < 7
          · rw [kB_p (show nI nT < (7 : Int32) from nI_lt (b := 7) q (by decide)), kB_n (show ¬ nI nT = (7 : Int32) from fun q2 => by have := (nI_eq (b := 7) (by omega) (by decide)).mp q2; omega)]
            simp only [kL_p]
            have jt : ¬ (nI nT < 0 ∨ 7 ≤ (nI nT).toNatClampNeg) := nI_in q (by decide)
            have e0 : ∀ (A : zMS) (k : Nat) (f : Nat → Int32), (mSA A k f).1 0 = A.1 0 := fun _ _ _ => rfl
            simp only [e0, hT.2.1, kO_p jt, nI_clamp (show nT < 2 ^ 31 by omega), kO_p (rb_in2 q (show 7 < 2 ^ 31 by decide)), nI_1]
            have e2 : ∀ (A : zMS), (mSI A 0 (nI (nT + 1))).1 0 - 1 = nI nT := fun A => by rw [mSI_s, nI_pred]
            rw [e2]
            refine ⟨nI nT, _, _, rfl, rfl, ?_⟩
            refine rbAll.m b c d e f g l (fun k hk => Or.inr ?_) (fun k hk => ?_) rfl rbSE.rf rbSD.rf rfl (nT' := nT + 1) (nP' := nP) ?_
            · exact mSI_o _ _ (by intro e; subst e; exact hk (by decide))
            · simp only [rbNA, List.mem_cons, List.not_mem_nil, or_false, not_or] at hk
              show (mSA (mSA (mSA SM 8 _) 9 _) 10 _).2.1 k = _
              rw [mSA_o _ _ hk.2.2.1, mSA_o _ _ hk.2.1, mSA_o _ _ hk.1]
            · obtain ⟨⟨⟨a1, a2, a3⟩, b1, c5, d1, e1, q1, m1, w1, l1, l2⟩, ⟨g1, g2, g3, g4, g5, g6, g7, g8⟩, k1, ⟨o, o1, o2, o3, o4⟩, z32, z33, z34, pk, sd, hd, bk, ev⟩ := a
              refine ⟨⟨⟨rfl, rfl, by omega⟩, b1, ?_, ?_, e1, q1, rbMc.e (SM := SM) rfl rfl rfl rfl rfl rfl rfl m1, w1, l1, l2⟩, ⟨g1, g2, g3, g4, g5, g6, g7, ?_⟩, k1, ⟨o, o1, o2, by omega, o4⟩, z32, z33, z34, pk, sd, hd, bk, ev⟩
              · intro t ht
                show upd (SN.2.1 0) nT (nI m) t = upd (SM.2.1 8) nT (nI m) t ∧ upd (SN.2.1 1) nT x2 t = upd (SM.2.1 9) nT x2 t
                by_cases z : t = nT
                · subst z
                  rw [pk_us, pk_us, pk_us, pk_us]
                  exact ⟨rfl, rfl⟩
                · rw [pk_un z, pk_un z, pk_un z, pk_un z]
                  exact c5 t ht
              · intro t ht
                show ∃ m', 1 ≤ m' ∧ m' ≤ 20 ∧ upd (SM.2.1 8) nT (nI m) t = nI m'
                by_cases z : t = nT
                · subst z
                  rw [pk_us]
                  exact ⟨m, hm1, hm, rfl⟩
                · rw [pk_un z]
                  exact d1 t (by omega)
              · intro t ht
                show upd (SN.2.1 2) nT 0 t = upd (SM.2.1 10) nT 0 t ∧ ∃ h, h ≤ 999 ∧ upd (SM.2.1 10) nT 0 t = nI h
                by_cases z : t = nT
                · subst z
                  rw [pk_us, pk_us]
                  exact ⟨rfl, 0, by omega, rfl⟩
                · rw [pk_un z, pk_un z]
                  exact g8 t ht
          · have : nT = 7 := by omega
            subst this
            rw [kB_n (show ¬ nI 7 < (7 : Int32) by decide), kB_p (show nI 7 = (7 : Int32) by decide)]; exact ⟨_, _, _, rfl, rfl, h0⟩
        · rw [kB_n c4, rb_in0 (Or.inr c4), kC_p, kB_00]; exact ⟨_, _, _, rfl, rfl, h0⟩
theorem rbSD_app {w : Nat} {v : zPS} (hw : w ∉ SD.map Prod.fst) : rbSD SD (SD ++ [(w, v)]) ∧ plook (SD ++ [(w, v)]) w = some v := by
  have key : ∀ (A : List (Nat × zPS)), (∀ a u, plook A a = some u → plook (A ++ [(w, v)]) a = some u) ∧ (w ∉ A.map Prod.fst → plook (A ++ [(w, v)]) w = some v) := by
    intro A
    induction A with
    | nil =>
      refine ⟨fun a u h => (by cases h), fun _ => ?_⟩
      show plook [(w, v)] w = _
      unfold plook
      rw [if_pos rfl]
    | cons x A ih =>
      refine ⟨fun a u h => ?_, fun hx => ?_⟩
      · show plook (x :: (A ++ [(w, v)])) a = _
        unfold plook at h ⊢
        split at h
        · rename_i e; rw [if_pos e]; exact h
        · rename_i e; rw [if_neg e]; exact ih.1 a u h
      · show plook (x :: (A ++ [(w, v)])) w = _
        have hx2 : w ≠ x.1 ∧ w ∉ A.map Prod.fst := by
          rw [List.map_cons, List.mem_cons, not_or] at hx
          exact hx
        unfold plook
        rw [if_neg (fun e => hx2.1 e.symm)]
        exact ih.2 hx2.2
  exact ⟨(key SD).1, (key SD).2 hw⟩
/-- the reference's parent, laid out -/
theorem rb_mrow (N : Nat) {nP : Nat} (hP : nP < 4) : ∀ (j x n : Nat) (A : zMS), x + j = 4 → j < n → A.1 1 = nI nP → (∀ i : Nat, i < x → A.2.1 13 (4 * nP + i) = 1) → ∃ B : zMS, f_X12_parent_l60 N n A (nI x) = some (nI nP, mSI B 1 (nI (nP + 1))) ∧ B.1 = A.1 ∧ (∀ k : Nat, k ≠ 13 → B.2.1 k = A.2.1 k) ∧ B.2.2 = A.2.2 ∧ (∀ i : Nat, i < 4 → B.2.1 13 (4 * nP + i) = 1) ∧ ∀ i : Nat, i < 4 * nP ∨ 4 * nP + 4 ≤ i → B.2.1 13 i = A.2.1 13 i
  | j, x, 0, A, _, h, _, _ => by omega
  | 0, x, n + 1, A, hx, _, h1, hp => by
    have hx : x = 4 := by omega
    subst hx
    rw [s_X12_parent_l60]
    show ∃ B, kB _ _ _ = _ ∧ _
    rw [kB_p (by decide), h1]
    simp only [kL_p]
    rw [nI_1, mSI_s, nI_pred]
    exact ⟨A, rfl, rfl, fun _ _ => rfl, rfl, hp, fun _ _ => rfl⟩
  | j + 1, x, n + 1, A, hx, hn, h1, hp => by
    have e4 : (4 : Int32) = nI 4 := rfl
    obtain ⟨B, b1, b2, b3, b4, b5, b6⟩ := rb_mrow N hP j (x + 1) n (mSA A 13 (upd (A.2.1 13) (4 * nP + x) 1)) (by omega) (by omega) h1 (by
      intro i hi
      rw [mSA_s]
      by_cases c : i = x
      · subst c; rw [pk_us]
      · rw [pk_un (by omega)]; exact hp i (by omega))
    rw [s_X12_parent_l60]
    show ∃ B, kB _ _ _ = _ ∧ _
    rw [kB_n (show ¬ (4 : Int32) ≤ nI x from nI_ge (b := 4) (by omega) (by omega)), h1]
    simp only [kL_p]
    rw [e4, pk_mul, nI_add, kO_p (nI_in (by omega) (by decide)), nI_clamp (by omega), nI_1]
    refine ⟨B, b1, b2, fun k hk => (b3 k hk).trans (mSA_o _ _ hk), b4, b5, fun i hi => (b6 i hi).trans ?_⟩
    rw [mSA_s, pk_un (by omega)]
theorem rb_parent (hN : 101 ≤ N) (h : rbAll SX SN SK SR SV SG SD SE SM) (x1 x2 : Int32) :
    (x1 < 0 ∧ f_X12_parent N SM x1 x2 = some (-1, SM)) ∨ (¬ x1 < 0 ∧ ¬ x1 < 7 ∧ f_X12_parent N SM x1 x2 = some (-1, SM)) ∨ (¬ x1 < 0 ∧ x1 < 7 ∧ x2 < 0 ∧ f_X12_parent N SM x1 x2 = some (-2, SM)) ∨ (¬ x1 < 0 ∧ x1 < 7 ∧ ¬ x2 < 0 ∧ ¬ x2 ≤ 9 ∧ f_X12_parent N SM x1 x2 = some (-2, SM)) ∨ (¬ x1 < 0 ∧ x1 < 7 ∧ ¬ x2 < 0 ∧ x2 ≤ 9 ∧ ¬ SN.1 8 < 4 ∧ f_X12_parent N SM x1 x2 = some (-4, SM)) ∨
    ((x1 = 0 ∨ x1 = 1 ∨ x1 = 2 ∨ x1 = 3 ∨ x1 = 4 ∨ x1 = 5 ∨ x1 = 6) ∧ ¬ x1 < 0 ∧ x1 < 7 ∧ ¬ x2 < 0 ∧ x2 ≤ 9 ∧ SN.1 8 < 4 ∧ ¬ ((SN.1 8) < 0 ∨ 4 ≤ (SN.1 8).toNatClampNeg) ∧ (∀ i : Nat, i < 4 → ¬ ((((4 : Int32) * (SN.1 8)) + nI i) < 0 ∨ 16 ≤ (((4 : Int32) * (SN.1 8)) + nI i).toNatClampNeg)) ∧ ∃ SM', f_X12_parent N SM x1 x2 = some (SN.1 8, SM') ∧ ∀ w : Nat, w ∉ SD.map Prod.fst → rbAll SX (zpb6 SN w) SK SR SV SG (SD ++ [(w, (x1, SN.1 8, x2))]) SE SM') := by
  obtain ⟨nT, nP, L, HS, a, b, c, d, e, f, g, l⟩ := h
  have hP := a.1.2.1
  by_cases c1 : x1 < 0
  · refine Or.inl ⟨c1, ?_⟩
    unfold f_X12_parent
    rw [rb_in0 (Or.inl c1), kC_p, kB_00]
  · obtain ⟨y, hy, rfl⟩ := nI_of c1
    have l7 : (nI y < 7) ↔ y < 7 := nI_ltI (b := 7) hy (by decide)
    have l6 : (nI y ≤ 6) ↔ y ≤ 6 := nI_leI (b := 6) hy (by decide)
    by_cases c2 : y < 7
    · have c2' := l7.mpr c2
      have i1 : f_X12_in SM (nI y) 0 6 = some 1 := rb_in1 c1 (l6.mpr (by omega))
      by_cases c3 : x2 < 0
      · refine Or.inr (Or.inr (Or.inl ⟨c1, c2', c3, ?_⟩))
        unfold f_X12_parent
        rw [i1, kC_p, kB_10, rb_in0 (Or.inl c3), kC_p, kB_00]
      · by_cases c4 : x2 ≤ 9
        · obtain ⟨v, hv, rfl⟩ := nI_of2 (M := 9) (n := 9) rfl c3 c4
          by_cases c5 : nP < 4
          · have c5' : SN.1 8 < 4 := by rw [hP.1]; exact nI_lt (b := 4) c5 (by decide)
            have e4 : (4 : Int32) = nI 4 := rfl
            refine Or.inr (Or.inr (Or.inr (Or.inr (Or.inr ⟨?_, c1, c2', c3, c4, c5', ?_, ?_, ?_⟩))))
            · have hk : y = 0 ∨ y = 1 ∨ y = 2 ∨ y = 3 ∨ y = 4 ∨ y = 5 ∨ y = 6 := by omega
              rcases hk with rfl | rfl | rfl | rfl | rfl | rfl | rfl <;> decide
            · rw [hP.1]; exact nI_in c5 (by decide)
            · intro i hi
              rw [hP.1, e4, pk_mul, nI_add]
              exact nI_in (by omega) (by decide)
            · let A : zMS := mSA (mSA SM 11 (upd (SM.2.1 11) nP (nI y))) 12 (upd (SM.2.1 12) nP (nI v))
              obtain ⟨B, b1, b2, b3, b4, b5, b6⟩ := rb_mrow N c5 4 0 N A (by omega) (by omega) hP.2.1 (fun i hi => by omega)
              refine ⟨mSI B 1 (nI (nP + 1)), ?_, ?_⟩
              · unfold f_X12_parent
                rw [i1, kC_p, kB_10, rb_in1 c3 c4, kC_p, kB_10, hP.2.1, kB_n (show ¬ nI nP = (4 : Int32) from fun q2 => by have := (nI_eq (b := 4) (by omega) (by decide)).mp q2; omega), kO_p (nI_in c5 (by decide))]
                simp only [kL_p]
                have e0 : ∀ (A : zMS) (k : Nat) (f : Nat → Int32), (mSA A k f).1 1 = A.1 1 := fun _ _ _ => rfl
                simp only [e0, hP.2.1, kO_p (nI_in c5 (show 4 < 2 ^ 31 by decide)), nI_clamp (show nP < 2 ^ 31 by omega), kO_p (rb_in2 c5 (show 4 < 2 ^ 31 by decide)), mSA_o _ _ (show (12 : Nat) ≠ 11 by decide)]
                rw [hP.1]
                exact b1
              · intro w hw
                obtain ⟨s1, s2⟩ := rbSD_app (v := (nI y, SN.1 8, nI v)) hw
                have sm : ∀ k : Nat, k ≠ 13 → k ≠ 11 → k ≠ 12 → B.2.1 k = SM.2.1 k := fun k k1 k2 k3 => (b3 k k1).trans ((mSA_o _ _ k3).trans (mSA_o _ _ k2))
                have si : ∀ k : Nat, k ≠ 1 → (mSI B 1 (nI (nP + 1))).1 k = SM.1 k := fun k k1 => (mSI_o _ _ k1).trans (by rw [b2]; rfl)
                refine rbAll.m b c d e f g l (fun k hk => Or.inr (si k (by intro e; subst e; exact hk (by decide)))) (fun k hk => ?_) b4 rbSE.rf s1 rfl (nT' := nT) (nP' := nP + 1) ?_
                · simp only [rbNA, List.mem_cons, List.not_mem_nil, or_false, not_or] at hk
                  exact sm k hk.2.2.2.2.2.1 hk.2.2.2.1 hk.2.2.2.2.1
                · have z8 : ∀ k : Nat, k ≠ 8 → (zpb6 SN w).1 k = SN.1 k := fun k hk => va_up_ne _ _ hk
                  have c8 : (SN.1 8).toNatClampNeg = nP := by rw [hP.1, nI_clamp (by omega)]
                  have z4 : ∀ i : Nat, (zpb6 SN w).2.1 4 i = if 4 * nP ≤ i ∧ i < 4 * nP + 4 then 1 else SN.2.1 4 i := by
                    intro i
                    have ix : ∀ j : Nat, j < 4 → (((4 : Int32) * (SN.1 8)) + nI j).toNatClampNeg = 4 * nP + j := by
                      intro j hj
                      rw [hP.1, e4, pk_mul, nI_add, nI_clamp (by omega)]
                    have x0 := ix 0 (by omega)
                    have x1 := ix 1 (by omega)
                    have x2 := ix 2 (by omega)
                    have x3 := ix 3 (by omega)
                    show upd (upd (upd (upd (SN.2.1 4) (((4 : Int32) * (SN.1 8)) + nI 0).toNatClampNeg 1) (((4 : Int32) * (SN.1 8)) + nI 1).toNatClampNeg 1) (((4 : Int32) * (SN.1 8)) + nI 2).toNatClampNeg 1) (((4 : Int32) * (SN.1 8)) + nI 3).toNatClampNeg 1 i = _
                    rw [x0, x1, x2, x3]
                    unfold upd
                    repeat' split
                    all_goals first | rfl | omega
                  have zp : ∀ q : Nat, (zpb6 SN w).2.2.1 q = if q = nP then some w else SN.2.2.1 q := by
                    intro q
                    show va_up SN.2.2.1 (SN.1 8).toNatClampNeg (some w) q = _
                    rw [c8]
                    rfl
                  obtain ⟨⟨⟨a1, a2, a3⟩, -, c6, d1, e1, q1, m1, w1, l1, l2⟩, ⟨g1, g2, g3, g4, g5, g6, g7, g8⟩, k1, ⟨o, o1, o2, o3, o4⟩, z32, z33, z34, pk, sd, hd, bk, ev⟩ := a
                  refine ⟨⟨⟨a1, (si 0 (by decide)).trans a2, a3⟩, ⟨?_, mSI_s _ _ _, by omega⟩, ?_, ?_, ?_, ?_, rbMc.e (SM := SM) (si 15 (by decide)) (sm 20 (by decide) (by decide) (by decide)) (sm 21 (by decide) (by decide) (by decide)) (sm 22 (by decide) (by decide) (by decide)) (sm 23 (by decide) (by decide) (by decide)) (sm 24 (by decide) (by decide) (by decide)) (sm 25 (by decide) (by decide) (by decide)) m1, w1, l1, ?_⟩, ⟨?_, ?_, ?_, ?_, ?_, ?_, ?_, ?_⟩, k1, ⟨o, o1, (si 7 (by decide)).trans o2, o3, o4⟩, (si 32 (by decide)).trans z32, (si 33 (by decide)).trans z33, (si 34 (by decide)).trans z34, ?_, ?_, ?_, ?_, ?_⟩
                  · show SN.1 8 + 1 = _
                    rw [hP.1, nI_1]
                  · intro t ht
                    rw [mSI_2, sm 8 (by decide) (by decide) (by decide), sm 9 (by decide) (by decide) (by decide)]
                    exact c6 t ht
                  · intro t ht
                    rw [mSI_2, sm 8 (by decide) (by decide) (by decide)]
                    exact d1 t ht
                  · intro i hi
                    rw [z4 i, mSI_2]
                    by_cases q : 4 * nP ≤ i ∧ i < 4 * nP + 4
                    · obtain ⟨j, rfl⟩ : ∃ j, i = 4 * nP + j := ⟨i - 4 * nP, by omega⟩
                      rw [if_pos q, b5 j (by omega)]
                      exact ⟨rfl, Or.inr rfl⟩
                    · rw [if_neg q, b6 i (by omega)]
                      exact e1 i hi
                  · intro q hq
                    rw [zp q, mSI_2, b3 11 (by decide), b3 12 (by decide)]
                    show ∃ w' k v', (if q = nP then some w else SN.2.2.1 q) = some w' ∧ plook _ w' = some (nI k, nI q, nI v') ∧ k < 7 ∧ v' ≤ 9 ∧ upd (SM.2.1 11) nP (nI y) q = nI k ∧ upd (SM.2.1 12) nP (nI v) q = nI v'
                    by_cases z : q = nP
                    · subst z
                      rw [if_pos rfl, pk_us, pk_us]
                      refine ⟨w, y, v, rfl, ?_, c2, hv, rfl, rfl⟩
                      rw [s2, hP.1]
                    · rw [if_neg z, pk_un z, pk_un z]
                      obtain ⟨w', k, v', p1, p2, p3⟩ := q1 q (by omega)
                      exact ⟨w', k, v', p1, s1 _ _ p2, p3⟩
                  · rw [si 32 (by decide)]; exact l2
                  · rw [si 3 (by decide)]; exact g1
                  · rw [si 3 (by decide)]; exact g2
                  · rw [si 4 (by decide)]; exact g3
                  · rw [si 5 (by decide)]; exact g4
                  · rw [si 6 (by decide)]; exact g5
                  · rw [si 2 (by decide)]; exact g6
                  · rw [si 2 (by decide)]; exact g7
                  · intro t ht
                    rw [mSI_2, sm 10 (by decide) (by decide) (by decide)]
                    exact g8 t ht
                  · intro i hi
                    rw [zp i]
                    by_cases z : i = nP
                    · rw [if_pos z]
                      show (plook _ w).isSome = true
                      rw [s2]
                      rfl
                    · rw [if_neg z]
                      exact s1.pok (pk i hi)
                  · intro i hi
                    rw [mSI_2, sm 47 (by decide) (by decide) (by decide)]
                    exact sd i hi
                  · rw [si 46 (by decide)]; exact hd
                  · obtain ⟨k, k1, k2, k3, k4⟩ := bk
                    refine ⟨k, k1, k2, (si 48 (by decide)).trans k3, fun i hi => ?_⟩
                    rw [mSI_2, sm 49 (by decide) (by decide) (by decide)]
                    obtain ⟨p', p1, p2, p3⟩ := k4 i hi
                    exact ⟨p', by omega, p2, p3⟩
                  · rw [si 2 (by decide)]; exact ev
          · have : nP = 4 := by omega
            subst this
            refine Or.inr (Or.inr (Or.inr (Or.inr (Or.inl ⟨c1, c2', c3, c4, ?_, ?_⟩))))
            · rw [hP.1]; decide
            · unfold f_X12_parent
              rw [i1, kC_p, kB_10, rb_in1 c3 c4, kC_p, kB_10, hP.2.1, kB_p (show nI 4 = (4 : Int32) by decide)]
        · refine Or.inr (Or.inr (Or.inr (Or.inl ⟨c1, c2', c3, c4, ?_⟩)))
          unfold f_X12_parent
          rw [i1, kC_p, kB_10, rb_in0 (Or.inr c4), kC_p, kB_00]
    · refine Or.inr (Or.inl ⟨c1, fun q => c2 (l7.mp q), ?_⟩)
      unfold f_X12_parent
      rw [rb_in0 (Or.inr (fun q => c2 (by have := l6.mp q; omega))), kC_p, kB_00]
theorem rb_askC (hN : 101 ≤ N) (h : rbAll SX SN SK SR SV SG SD SE SM) (x1 : Int32) : ∃ r SN' SE' SM', f_X11_ask N SX SN SK ST S SR SV SG SY SZ SD SE x1 = some (r, SN', SE') ∧ f_X12_ask N SM x1 = some (r, SM') ∧ rbAll SX SN' SK SR SV SG SD SE' SM' := by
  have h0 := h
  obtain ⟨nT, nP, L, HS, a, b, c, d, e, f, g, l⟩ := h
  obtain ⟨w1, w2⟩ := rb_how hN a.1 a.2.1
  unfold f_X11_ask f_X12_ask
  rcases rb_pc a.1 x1 with ⟨e1, e2⟩ | ⟨p, w, k, v, hp, rfl, e1, e3, e4, k7, v9, e5, e6, e2⟩
  · rw [e1, kC_p, kN_p0, e2, kC_p, kB_00]; exact ⟨_, _, _, _, rfl, rfl, h0⟩
  · have a0 := a
    obtain ⟨a1, a2, a3, ⟨o, o1, o2, o3, o4⟩, a5, a6, a7, pk, sd, hd, bk, ev⟩ := a
    have hT := a1.1
    rw [e1, kC_p, kN_p1, w1, kC_p, e2, kC_p, kB_10]
    have ov : f_X12_isOver N SM = some (if rbHow SN = 0 ∧ 0 < nT then 0 else 1) := by
      unfold f_X12_isOver
      rw [w2, kC_p, hT.2.1, a7]
      by_cases c2 : rbHow SN = 0
      · rw [kB_p c2]
        by_cases c3 : nT = 0
        · subst c3
          rw [kB_p (by decide), if_neg (fun q => absurd q.2 (by decide))]
        · rw [kB_n (nI_ne0 (by omega) (by omega)), kB_p (by decide), if_pos ⟨c2, by omega⟩]
      · rw [kB_n c2, if_neg (fun q => c2 q.1)]
    rw [ov, kC_p]
    by_cases c2 : rbHow SN = 0
    · rw [kB_p c2, o1]
      by_cases c3 : nT = 0
      · subst c3
        rw [rb_has0 hT.1 (Or.inr (nI_le (by omega) (by omega))), kC_p, kB_00, if_neg (fun q => absurd q.2 (by decide)), kB_10]; exact ⟨_, _, _, _, rfl, rfl, h0⟩
      · have ho : o < nT := by omega
        obtain ⟨w', pv, r, r1, r2, r3, r4, r5, r6⟩ := rb_grants hN a1 a2 hp ho
        rw [e3] at r1
        cases r1
        have hr : (r = 0 ∨ SM.1 33 = 0) ∧ r = 0 ∨ ¬ r = 0 ∧ ¬ SM.1 33 = 0 ∧ r = 1 := by
          rcases r4 with rfl | rfl
          · exact Or.inl ⟨Or.inl rfl, rfl⟩
          · exact Or.inr ⟨by decide, by rw [a6]; decide, rfl⟩
        obtain ⟨SN1, SE1, SM1, q1, q2, ⟨s1, s2, s3, s4, s5, s6, s7, s8, s9⟩⟩ := rb_ask hN a1 a2 a3 hp ho e3 (rb_cl0 c2) r6 hr
        have n1 : f_X12_nextOf SM1 (nI o) = some (nI (rbNx nT o)) := rb_nx ((s4.1 0 (by decide)).trans hT.2.1) hT.2.2 o4
        have e34 : ¬ SM.1 7 = SM.1 34 := by
          rw [o2, a7]
          intro e
          have := nI_pos (n := o) (by omega)
          rw [e] at this
          exact this (by decide)
        rw [rb_has hT.1 hT.2.2 ho, kC_p, kB_10, r2, kC_p, r5, kC_p, q1, kD_p, if_pos ⟨c2, by omega⟩, kB_00]
        have hcl : ∀ A : zHS, A.1 15 = nI o → A.1 7 = nI nT → (kL ((A.1 15) + 1) (fun v22 => kB ((A.1 7) ≤ v22) (f_X11_ask_b113 N SX SK ST S SR SV SG SY SZ SD A SE1 r 0) (kL ((A.1 15) + 1) (fun v24 => f_X11_ask_b113 N SX SK ST S SR SV SG SY SZ SD A SE1 r v24)))) = f_X11_ask_b113 N SX SK ST S SR SV SG SY SZ SD A SE1 r (nI (rbNx nT o)) := by
          intro A h15 h7
          rw [h15, h7, kL_p, nI_1]
          unfold rbNx
          by_cases c4 : o + 1 < nT
          · rw [kB_n (nI_ge c4 (by omega)), if_pos c4, kL_p]
          · rw [kB_p (nI_le (by omega) (by omega)), if_neg c4]
            rfl
        rw [hcl SN1 (s5.trans o1) ((s3.1 7 (by decide)).trans hT.1)]
        unfold f_X12_goAsk f_X12_goAsk_b23
        rw [kB_n e34, o2, q2, kD_p, s6, o2, n1, kC_p, kL_p, kO_p r4, kD_p]
        unfold f_X11_ask_b113
        rw [kL_p]
        have fin : rbAll SX (hSI SN1 15 (nI (rbNx nT o))) SK SR SV SG SD SE1 (mSI SM1 7 (nI (rbNx nT o))) := by
          have fr7 : rbFr SM (mSI SM1 7 (nI (rbNx nT o))) := s4.I (by decide)
          have si : ∀ k : Nat, k ∉ ([3, 4, 5, 6, 7, 33, 35] : List Nat) → (mSI SM1 7 (nI (rbNx nT o))).1 k = SM.1 k := by
            intro k hk
            by_cases q : k = 2
            · subst q; exact s7
            · refine fr7.1 k ?_
              simp only [rbDI, List.mem_cons, List.not_mem_nil, or_false, not_or] at hk ⊢
              omega
          have h33 : (mSI SM1 7 (nI (rbNx nT o))).1 33 = -1 := by
            show SM1.1 33 = -1
            rw [s8, a6]
            rcases r4 with rfl | rfl
            · rw [if_pos rfl]
            · rw [if_neg (by decide), if_pos (by decide)]
          refine rbAll.m b c d e f g l (fun k hk => ?_) (fun k hk => fr7.2.1 k (by intro q; simp only [rbDA, List.mem_cons, List.not_mem_nil, or_false] at q; rcases q with rfl | rfl <;> exact hk (by decide))) fr7.2.2 s1 rbSD.rf (by show SN1.2.2.2 = _; rw [s3.2.2]) (nT' := nT) (nP' := nP) ?_
          · by_cases q : k = 35
            · exact Or.inl q
            · right
              by_cases q2 : k = 33
              · subst q2; rw [h33, a6]
              · refine si k ?_
                simp only [rbNI, List.mem_cons, List.not_mem_nil, or_false, not_or] at hk ⊢
                omega
          · refine ⟨a1.fr (s3.I (by decide)) fr7, s2, a3.e (by show SN1.2.2.2 = _; rw [s3.2.2]) s1, ⟨rbNx nT o, hSI_s _ _ _, mSI_s _ _ _, ?_, ?_⟩, (si 32 (by decide)).trans a5, h33, (si 34 (by decide)).trans a7, ?_, ?_, ?_, ?_, ?_⟩
            · left; unfold rbNx; split <;> omega
            · unfold rbNx; split <;> omega
            · intro i hi; show pok SD (SN1.2.2.1 i) = true; rw [s3.2.2]; exact pk i hi
            · intro i hi
              show SN1.2.1 5 i = SM1.2.1 47 i ∧ _
              rw [s3.2.1 5 (by decide), s4.2.1 47 (by decide)]
              have := sd i hi
              refine ⟨this.1, ?_⟩
              show SM1.2.1 47 i = 0 ∨ SM1.2.1 47 i = 1
              rw [s4.2.1 47 (by decide)]
              exact this.2
            · obtain ⟨hh, h1, h2, h3⟩ := hd
              exact ⟨hh, h1, (s3.1 9 (by decide)).trans h2, (si 46 (by decide)).trans h3⟩
            · obtain ⟨k, k1, k2, k3, k4⟩ := bk
              refine ⟨k, k1, (s3.1 10 (by decide)).trans k2, (si 48 (by decide)).trans k3, fun i hi => ?_⟩
              show ∃ p', p' < nP ∧ SN1.2.1 6 i = nI p' ∧ SM1.2.1 49 i = nI p'
              rw [s3.2.1 6 (by decide), s4.2.1 49 (by decide)]
              exact k4 i hi
            · rw [si 2 (by decide)]; exact ev
        rcases r4 with rfl | rfl
        · rw [kB_00, kB_00]; exact ⟨_, _, _, _, rfl, rfl, fin⟩
        · rw [kB_10, kB_10]; exact ⟨_, _, _, _, rfl, rfl, fin⟩
    · rw [kB_n c2, if_neg (fun q => c2 q.1), kB_10]; exact ⟨_, _, _, _, rfl, rfl, h0⟩
end RBMO
