/-! B: on, mean, odds, without -/
section RBM
variable {N : Nat} {SN S : zHS} {SM SB : zMS} {SD : List (Nat × zPS)} {SE : List ((Nat → Nat) × zQS)} {ST : zTS} {nT nP p w m : Nat} {L : List rbCl} {SX SR : zRS} {SK : zHS} {SV : Nat → Nat → Int64} {SG SY SZ : Nat → Int32}
theorem rb_rn (hN : 101 ≤ N) (hn : rbNow SN SM SD SE nT nP L) (hp : p < nP) (hw : SN.2.2.1 p = some w) (hm : m ≤ 60) (ST : zTS) (S : zHS) :
    ∃ (ST1 : zTS) (S1 : zHS) (ST' : zTS) (S' : zHS) (SE' : List ((Nat → Nat) × zQS)) (SM1 SM' C : zMS) (k : Nat), f_X10_start N ST S SN SD = some (ST1, S1) ∧ f_X10_run N ST1 S1 SD SE (some w) (some w) (nI m) = some (ST', S', SE') ∧ f_X12_save N SM = some SM1 ∧ f_X12_goAsks N SM1 (nI p) (nI m) = some (nI k, SM') ∧ rbT S' SM' SD SE' nT nP L 7 0 ST' ∧ f_X12_putBack N SM' = some C ∧ rbJ SM C ∧ rbSE SE SE' ∧ ST'.1 5 = nI k := by
  obtain ⟨ST1, S1, t1, t2, t3, t4, t5, t6, t7, -⟩ := rb_tr hN hn ST S
  obtain ⟨SM1, s1, s2⟩ := rb_save hN SM
  obtain ⟨a, b, c, ⟨o, d1, d2, d3, d4⟩, e, f, g, -⟩ := hn
  have hP := a.2.1.2.2
  have hT : rbT S1 SM1 SD SE nT nP L 7 (0 + m) ST1 := ⟨s2.K (a.eq t2), s2.E (b.eq t2), c.eq t2, rb_pos0 t3 a.1.2.2 t4 (t5.trans d1) ((s2.1 7 (by decide)).trans d2) d3 d4 ((s2.1 34 (by decide)).trans g), rb_cp0 t6 ((s2.1 33 (by decide)).trans f) (by omega)⟩
  obtain ⟨ST', S', SE', SM', k, r1, r2, -, r4, ⟨q1, q2, q3, q4⟩, r6⟩ := rb_run1 (a := 7) hN hp (w := w) hm m 0 N N 0 ST1 S1 SE SM1 (by omega) (by omega) (by omega) (by rw [t2.2.2.2.2.2.1 p (by omega)]; exact hw) hT
  obtain ⟨C, c1, c2, -⟩ := rb_putBack hN s2 q3
  refine ⟨ST1, S1, ST', S', SE', SM1, SM', C, k, t1, r1, s1, r2, r4, c1, c2, q1, ?_⟩
  rw [r6, t7]
  show (0 : Int32) + (nI k - 0) = nI k
  rw [Int32.sub_zero, Int32.zero_add]
theorem rb_on (hN : 101 ≤ N) (hn : rbNow SN SM SD SE nT nP L) (x1 x2 x3 : Int32) : rbQ (f_X11_on N SX SN SK ST S SR SV SG SY SZ SD SE x1 x2 x3) (f_X12_on N SM x1 x2 x3) SM SE := by
  unfold f_X11_on f_X12_on
  have base : ∀ v : Int32, rbQ (some (v, ST, S, SE)) (some (v, SM)) SM SE := fun v => ⟨_, _, _, _, _, rfl, rfl, rbJ.rf, rbSE.rf⟩
  rcases rb_pc hn.1 x1 with ⟨e1, e2⟩ | ⟨p, w, k, v, hp, rfl, e1, e3, -, -, -, -, -, e2⟩
  · rw [e1, kC_p, kN_p0, e2, kC_p, kB_00]; exact base _
  · rw [e1, kC_p, kN_p1, e2, kC_p, kB_10]
    by_cases c : x3 < 0
    · rw [kB_p c, rb_in0 (Or.inl c), kC_p, kB_00]; exact base _
    · rw [kB_n c]
      by_cases d : x3 ≤ 4
      · rw [kB_p d, rb_in1 c d, kC_p, kB_10]
        by_cases c2 : x2 < 0
        · rw [kB_p c2, rb_in0 (Or.inl c2), kC_p, kB_00]; exact base _
        · rw [kB_n c2]
          by_cases d2 : x2 ≤ 60
          · obtain ⟨m, hm, rfl⟩ := nI_of2 (M := 60) (n := 60) rfl c2 d2
            rw [kB_p d2, rb_in1 c2 d2, kC_p, kB_10]
            obtain ⟨ST1, S1, ST', S', SE', SM1, SM', C, k, q1, q2, q3, q4, q5, q6, q7, q8, q9⟩ := rb_rn hN hn hp e3 hm ST S
            obtain ⟨w1, w2⟩ := rb_how hN q5.1 q5.2.1
            rw [q1, kD_p, q2, kD3_p, q3, kC_p, q4, kD_p]
            obtain ⟨-, ⟨v1, -, v3, -, v5, -⟩, -⟩ := q5
            by_cases y0 : x3 = 0
            · rw [kB_p y0, kB_p y0, q6, kC_p, v1]; exact ⟨_, _, _, _, _, rfl, rfl, q7, q8⟩
            · rw [kB_n y0, kB_n y0]
              by_cases y1 : x3 = 1
              · rw [kB_p y1, kB_p y1, q6, kC_p, v3]; exact ⟨_, _, _, _, _, rfl, rfl, q7, q8⟩
              · rw [kB_n y1, kB_n y1]
                by_cases y2 : x3 = 2
                · rw [kB_p y2, kB_p y2, q6, kC_p, v5]; exact ⟨_, _, _, _, _, rfl, rfl, q7, q8⟩
                · rw [kB_n y2, kB_n y2]
                  by_cases y3 : x3 = 3
                  · rw [kB_p y3, kB_p y3, q6, kC_p, q9]; exact ⟨_, _, _, _, _, rfl, rfl, q7, q8⟩
                  · rw [kB_n y3, kB_n y3, w1, w2, kC_p, kC_p, q6, kC_p]; exact ⟨_, _, _, _, _, rfl, rfl, q7, q8⟩
          · rw [kB_n d2, rb_in0 (Or.inr d2), kC_p, kB_00]; exact base _
      · rw [kB_n d, rb_in0 (Or.inr d), kC_p, kB_00]; exact base _
theorem rb_per (h : rbK SN SM SD nT nP L) (hp : p < nP) : ∃ w : Nat, SN.2.2.1 p = some w ∧ f_X1_person SN (nI p) = some (some w) ∧ f_X12_isParent SM (nI p) = some 1 := by
  have hP := h.2.1
  rcases rb_pc h (nI p) with ⟨e1, e2⟩ | ⟨p', w, k, v, hp', ep, e1, e2, -, -, -, -, -, e3⟩
  · obtain ⟨w, k, v, w1, -⟩ := h.2.2.2.2.2.1 p hp
    exfalso
    unfold f_X1_person at e1
    rw [kB_n (nI_pos (by omega)), hP.1, kB_n (nI_ge (by omega) (by omega)), kB_n (show ¬ (4 : Int32) ≤ nI p from nI_ge (b := 4) (by omega) (by decide)), kO_p (nI_in (by omega) (by decide)), nI_clamp (by omega), w1] at e1
    cases e1
  · have : p' = p := ((nI_eq (by omega) (by omega)).mp ep).symm
    subst this
    exact ⟨w, e2, e1, e3⟩
theorem rb_mean_l (hN : 101 ≤ N) {x1 : Int32} : ∀ (j x n n' c : Nat) (ST : zTS) (S : zHS) (SE : List ((Nat → Nat) × zQS)) (SM : zMS), x + j = nP → j < n → j < n' → c ≤ 118 * x → rbNow SN SM SD SE nT nP L →
    ∃ (c' : Nat) (ST' : zTS) (S' : zHS) (SE' : List ((Nat → Nat) × zQS)) (SM' : zMS), c' < 2 ^ 20 ∧ f_X11_mean_l4 N SX SN SK SR SV SG SY SZ SD n ST S SE x1 (nI c) (nI x) = kC (f_X11_lowest N (nI c') (nI nP) x1) (fun r => some (r, ST', S', SE')) ∧ f_X12_mean_l25 N n' SM x1 (nI c) (nI x) = kC (f_X12_lowest N SM' (nI c') (nI nP) x1) (fun r => some (r, SM')) ∧ rbJ SM SM' ∧ rbSE SE SE'
  | j, x, 0, n', c, ST, S, SE, SM, _, h, _, _, _ => by omega
  | j, x, n + 1, 0, c, ST, S, SE, SM, _, _, h, _, _ => by omega
  | 0, x, n + 1, n' + 1, c, ST, S, SE, SM, hx, _, _, hc, hn => by
    have hP := hn.1.2.1
    refine ⟨c, ST, S, SE, SM, by omega, ?_, ?_, rbJ.rf, rbSE.rf⟩
    · rw [s_X11_mean_l4]
      show kB _ _ _ = _
      rw [hP.1, kB_p (nI_le (by omega) (by omega))]
    · rw [s_X12_mean_l25]
      show kB _ _ _ = _
      rw [hP.2.1, kB_p (nI_le (by omega) (by omega))]
  | j + 1, x, n + 1, n' + 1, c, ST, S, SE, SM, hx, hn1, hn2, hc, hn => by
    have hP := hn.1.2.1
    obtain ⟨w, e1, e2, e3⟩ := rb_per hn.1 (show x < nP by omega)
    obtain ⟨ST1, S1, ST2, S2, SE2, SM1, SM2, C, k, q1, q2, q3, q4, q5, q6, q7, q8, q9⟩ := rb_rn hN hn (show x < nP by omega) e1 (Nat.le_refl 60) ST S
    obtain ⟨-, ⟨v1, ⟨cl, v2, v3⟩, -⟩, -⟩ := q5
    obtain ⟨c', ST', S', SE', SM', u0, u1, u2, u3, u4⟩ := rb_mean_l hN (x1 := x1) j (x + 1) n n' (c + cl) ST2 S2 SE2 C (by omega) (by omega) (by omega) (by omega) (hn.j q7 q8)
    have q2' : f_X10_run N ST1 S1 SD SE (some w) (some w) 60 = some (ST2, S2, SE2) := q2
    have q4' : f_X12_goAsks N SM1 (nI x) 60 = some (nI k, SM2) := q4
    have hon : f_X12_on N SM (nI x) 60 0 = some (nI cl, C) := by
      unfold f_X12_on
      rw [e3, kC_p, kB_10, rb_in1 (by decide) (by decide), kC_p, kB_10, rb_in1 (by decide) (by decide), kC_p, kB_10, q3, kC_p, q4', kD_p, kB_00, q6, kC_p, v3]
    refine ⟨c', ST', S', SE', SM', u0, ?_, ?_, q7.tr u3, q8.tr u4⟩
    · rw [s_X11_mean_l4]
      show kB _ _ _ = _
      rw [hP.1, kB_n (nI_ge (by omega) (by omega)), e2, kC_p, q1, kD_p, q2', kD3_p, v1, v3, kL_p, kL_p, nI_add, nI_1, u1]
    · rw [s_X12_mean_l25]
      show kB _ _ _ = _
      rw [hP.2.1, kB_n (nI_ge (by omega) (by omega)), hon, kD_p, kL_p, kL_p, nI_add, nI_1, u2]
theorem rb_mean (hN : 101 ≤ N) (hn : rbNow SN SM SD SE nT nP L) (x1 : Int32) : rbQ (f_X11_mean N SX SN SK ST S SR SV SG SY SZ SD SE x1) (f_X12_mean N SM x1) SM SE := by
  have hP := hn.1.2.1
  obtain ⟨c', ST', S', SE', SM', u0, u1, u2, u3, u4⟩ := rb_mean_l (SX := SX) (SR := SR) (SK := SK) (SV := SV) (SG := SG) (SY := SY) (SZ := SZ) hN (x1 := x1) nP 0 N N 0 ST S SE SM (by omega) (by omega) (by omega) (by omega) hn
  unfold f_X11_mean f_X12_mean
  have u1' : f_X11_mean_l4 N SX SN SK SR SV SG SY SZ SD N ST S SE x1 0 0 = kC (f_X11_lowest N (nI c') (nI nP) x1) (fun r => some (r, ST', S', SE')) := u1
  have u2' : f_X12_mean_l25 N N SM x1 0 0 = kC (f_X12_lowest N SM' (nI c') (nI nP) x1) (fun r => some (r, SM')) := u2
  rw [u1']
  by_cases c : x1 < 0
  · rw [rb_in0 (Or.inl c), kC_p, kB_00]
    unfold f_X11_lowest
    by_cases c0 : nI nP ≤ 0
    · rw [kB_p c0, kC_p]; exact ⟨_, _, _, _, _, rfl, rfl, rbJ.rf, u4⟩
    · rw [kB_n c0, kB_p c, kC_p]; exact ⟨_, _, _, _, _, rfl, rfl, rbJ.rf, u4⟩
  · by_cases d : x1 ≤ 1
    · rw [rb_in1 c d, kC_p, kB_10, hP.2.1]
      by_cases c0 : nP = 0
      · subst c0
        rw [kB_p (by decide)]
        unfold f_X11_lowest
        rw [kB_p (by decide), kC_p]
        exact ⟨_, _, _, _, _, rfl, rfl, rbJ.rf, u4⟩
      · rw [kB_n (nI_ne0 (by omega) (by omega)), u2']
        obtain ⟨v, v1, v2⟩ := rb_low SM' (part := x1) hN (show c' < 2 ^ 31 by omega) (show 1 ≤ nP by omega) (by omega) c d
        rw [v1, v2, kC_p, kC_p]
        exact ⟨_, _, _, _, _, rfl, rfl, u3, u4⟩
    · rw [rb_in0 (Or.inr d), kC_p, kB_00]
      unfold f_X11_lowest
      by_cases c0 : nI nP ≤ 0
      · rw [kB_p c0, kC_p]; exact ⟨_, _, _, _, _, rfl, rfl, rbJ.rf, u4⟩
      · rw [kB_n c0, kB_n c, kB_n d, kC_p]; exact ⟨_, _, _, _, _, rfl, rfl, rbJ.rf, u4⟩
theorem rb_odds_l (hN : 101 ≤ N) (hp : p < nP) (hw : SN.2.2.1 p = some w) {x1 x3 : Int32} (hx3 : SB.1 7 = x3) : ∀ (j x n n' c : Nat) (ST : zTS) (S : zHS) (SE : List ((Nat → Nat) × zQS)) (SM : zMS) (v0 : Int32), x + j = nT → j < n → j < n' → c ≤ x → rbNow SN SB SD SE nT nP L → rbJ (mSI SB 7 v0) SM →
    ∃ (c' : Nat) (ST' : zTS) (S' : zHS) (SE' : List ((Nat → Nat) × zQS)) (SM' : zMS), c' ≤ 7 ∧ f_X11_odds_l33 N SX SN SK SR SV SG SY SZ SD n ST S SE x1 w (nI c) (nI x) = kC (f_X11_lowest N (nI c') (nI nT) x1) (fun r => some (r, ST', S', SE')) ∧ f_X12_odds_l40 N n' SM (nI p) x1 x3 (nI c) (nI x) = kC (f_X12_lowest N SM' (nI c') (nI nT) x1) (fun r => some (r, SM')) ∧ rbJ SB SM' ∧ rbSE SE SE'
  | j, x, 0, n', c, ST, S, SE, SM, v0, _, h, _, _, _, _ => by omega
  | j, x, n + 1, 0, c, ST, S, SE, SM, v0, _, _, h, _, _, _ => by omega
  | 0, x, n + 1, n' + 1, c, ST, S, SE, SM, v0, hx, _, _, hc, hn, hj => by
    have hT := hn.1.1
    have hend : rbJ SB (mSI SM 7 x3) := by
      have := hj.mI (k := 7) (v := x3)
      rw [mSI_u, mSI_id hx3] at this
      exact this
    refine ⟨c, ST, S, SE, mSI SM 7 x3, by omega, ?_, ?_, hend, rbSE.rf⟩
    · rw [s_X11_odds_l33]
      show kB _ _ _ = _
      rw [hT.1, kB_p (nI_le (by omega) (by omega))]
    · have h0 : SM.1 0 = nI nT := (hj.1 0 (by decide)).trans hT.2.1
      rw [s_X12_odds_l40]
      show kB _ _ _ = _
      rw [h0, kB_p (nI_le (by omega) (by omega)), kL_p, mSI_o _ _ (by decide), h0]
  | j + 1, x, n + 1, n' + 1, c, ST, S, SE, SM, v0, hx, hn1, hn2, hc, hn, hj => by
    have hT := hn.1.1
    obtain ⟨ST1, S1, t1, t2, t3, t4, t5, t6, -, -⟩ := rb_tr hN hn ST S
    have hj2 : rbJ (mSI SB 7 (nI x)) (mSI SM 7 (nI x)) := by
      have := hj.mI (k := 7) (v := nI x)
      rw [mSI_u] at this
      exact this
    have h0 : SM.1 0 = nI nT := (hj.1 0 (by decide)).trans hT.2.1
    have hn0 := hn
    obtain ⟨a, b, c9, ⟨o, d1, d2, d3, d4⟩, e, f, g, -⟩ := hn
    have b1 : rbE S1 SB := b.eq t2
    obtain ⟨r, ST2, S2, SE2, SM2, q1, q2, q3, q4, q5⟩ := rb_tq (S := S1) (ST := tSI ST1 3 (nI x)) (X := mSI SB 7 (nI x)) (a := 7) hN (rbK.e (SM := SB) (SM' := mSI SB 7 (nI x)) rfl rfl rfl rfl (fun _ _ => rfl) (a.eq t2)) (show rbE S1 (mSI SB 7 (nI x)) from b1) (c9.eq t2) (fun M m7 m34 => rb_pos0 (ST := tSI ST1 3 (nI x)) t3 hT.2.2 t4 (tSI_s _ _ _) (m7.trans (mSI_s _ _ _)) (by omega) (by omega) (m34.trans g)) (rb_cp0 (M := mSI SB 7 (nI x)) (ST := tSI ST1 3 (nI x)) t6 f (by decide)) hp (show S1.2.2.1 p = some w by rw [t2.2.2.2.2.2.1 p (by have := a.2.1.2.2; omega)]; exact hw) hj2
    obtain ⟨e0, f1, f2, f3, f4⟩ := rb_earl (α := Nat) q5 (Or.inl rfl : rbVal (-5)) none none
    have hn' := hn0.j rbJ.rf q4
    by_cases cc : r = -5
    · obtain ⟨c', ST', S', SE', SM', u0, u1, u2, u3, u4⟩ := rb_odds_l hN hp hw (x1 := x1) hx3 j (x + 1) n n' c ST2 S2 SE2 SM2 (nI x) (by omega) (by omega) (by omega) (by omega) hn' (hj2.tr q3)
      refine ⟨c', ST', S', SE', SM', u0, ?_, ?_, u3, q4.tr u4⟩
      · rw [s_X11_odds_l33]
        show kB _ _ _ = _
        rw [hT.1, kB_n (nI_ge (by omega) (by omega)), t1, kD_p, kL_p, q1, kD4_p, kB_p cc, kL_p, nI_1, u1]
      · rw [s_X12_odds_l40]
        show kB _ _ _ = _
        rw [h0, kB_n (nI_ge (by omega) (by omega)), kL_p, q2, kD_p, kB_n (fun q => f4.mp q cc), kL_p, kL_p, nI_1, Int32.add_zero, u2]
    · obtain ⟨c', ST', S', SE', SM', u0, u1, u2, u3, u4⟩ := rb_odds_l hN hp hw (x1 := x1) hx3 j (x + 1) n n' (c + 1) ST2 S2 SE2 SM2 (nI x) (by omega) (by omega) (by omega) (by omega) hn' (hj2.tr q3)
      refine ⟨c', ST', S', SE', SM', u0, ?_, ?_, u3, q4.tr u4⟩
      · rw [s_X11_odds_l33]
        show kB _ _ _ = _
        rw [hT.1, kB_n (nI_ge (by omega) (by omega)), t1, kD_p, kL_p, q1, kD4_p, kB_n cc, kL_p, kL_p, nI_1, nI_1, u1]
      · rw [s_X12_odds_l40]
        show kB _ _ _ = _
        rw [h0, kB_n (nI_ge (by omega) (by omega)), kL_p, q2, kD_p, kB_p (f4.mpr cc), kL_p, kL_p, nI_1, nI_1, u2]
theorem rb_odds (hN : 101 ≤ N) (hn : rbNow SN SM SD SE nT nP L) (x0 x1 : Int32) : rbQ (f_X11_odds N SX SN SK ST S SR SV SG SY SZ SD SE x0 x1) (f_X12_odds N SM x0 x1) SM SE := by
  have hT := hn.1.1
  unfold f_X11_odds f_X12_odds
  rcases rb_pc hn.1 x0 with ⟨e1, e2⟩ | ⟨p, w, k, v, hp, rfl, e1, e3, -, -, -, -, -, e2⟩
  · rw [e1, kC_p, kN_p0, e2, kC_p, kB_00]; exact ⟨_, _, _, _, _, rfl, rfl, rbJ.rf, rbSE.rf⟩
  · obtain ⟨c', ST', S', SE', SM', u0, u1, u2, u3, u4⟩ := rb_odds_l (SX := SX) (SR := SR) (SK := SK) (SV := SV) (SG := SG) (SY := SY) (SZ := SZ) hN hp e3 (x1 := x1) (SB := SM) rfl nT 0 N N 0 ST S SE SM (SM.1 7) (by omega) (by omega) (by omega) (by omega) hn (by rw [mSI_id rfl]; exact rbJ.rf)
    have u1' : f_X11_odds_l33 N SX SN SK SR SV SG SY SZ SD N ST S SE x1 w 0 0 = kC (f_X11_lowest N (nI c') (nI nT) x1) (fun r => some (r, ST', S', SE')) := u1
    have u2' : f_X12_odds_l40 N N SM (nI p) x1 (SM.1 7) 0 0 = kC (f_X12_lowest N SM' (nI c') (nI nT) x1) (fun r => some (r, SM')) := u2
    rw [e1, kC_p, kN_p1, e2, kC_p, kB_10, hT.1, hT.2.1]
    by_cases c0 : nT = 0
    · subst c0
      rw [kB_p (by decide)]
      by_cases c : x1 < 0
      · rw [rb_in0 (Or.inl c), kC_p, kB_00]; exact ⟨_, _, _, _, _, rfl, rfl, rbJ.rf, rbSE.rf⟩
      · by_cases d : x1 ≤ 1
        · rw [rb_in1 c d, kC_p, kB_10, kB_p (by decide)]; exact ⟨_, _, _, _, _, rfl, rfl, rbJ.rf, rbSE.rf⟩
        · rw [rb_in0 (Or.inr d), kC_p, kB_00]; exact ⟨_, _, _, _, _, rfl, rfl, rbJ.rf, rbSE.rf⟩
    · rw [kB_n (nI_ne0 (by omega) (by omega)), u1']
      by_cases c : x1 < 0
      · rw [rb_in0 (Or.inl c), kC_p, kB_00]
        unfold f_X11_lowest
        rw [kB_n (nI_nle (by omega) (by omega)), kB_p c, kC_p]; exact ⟨_, _, _, _, _, rfl, rfl, rbJ.rf, u4⟩
      · by_cases d : x1 ≤ 1
        · obtain ⟨v, v1, v2⟩ := rb_low SM' (part := x1) hN (show c' < 2 ^ 31 by omega) (show 1 ≤ nT by omega) (by omega) c d
          rw [rb_in1 c d, kC_p, kB_10, kB_n (nI_ne0 (by omega) (by omega)), u2', v1, v2, kC_p, kC_p]
          exact ⟨_, _, _, _, _, rfl, rfl, u3, u4⟩
        · rw [rb_in0 (Or.inr d), kC_p, kB_00]
          unfold f_X11_lowest
          rw [kB_n (nI_nle (by omega) (by omega)), kB_n c, kB_n d, kC_p]; exact ⟨_, _, _, _, _, rfl, rfl, rbJ.rf, u4⟩
end RBM
