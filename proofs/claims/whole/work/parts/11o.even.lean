/-! B: without, evenings -/
section RBV
variable {N : Nat} {SN S : zHS} {SM SB : zMS} {SD : List (Nat × zPS)} {SE : List ((Nat → Nat) × zQS)} {ST : zTS} {nT nP p w m o t : Nat} {L : List rbCl} {SX SR : zRS} {SK : zHS} {SV : Nat → Nat → Int64} {SG SY SZ : Nat → Int32}
theorem rb_skip (hN : 101 ≤ N) (S : zHS) (h2 : ST.1 2 = nI nT) (hT : nT ≤ 7) (hi : ∀ i : Nat, i < nT → ST.2 i = nI i) (h3 : ST.1 3 = nI o) (ho : o < nT) (ht : t < nT) : ∃ ST' : zTS, f_X10_skip N ST S (nI t) = some ST' ∧ (∀ M : zMS, M.1 7 = nI o → M.1 34 = nI t → rbPos nT t ST' M) ∧ ST'.1 4 = ST.1 4 := by
  have lp : ∀ (j x n : Nat) (ST : zTS), x + j = nT - 1 → t ≤ x → j < n → ST.1 2 = nI (nT - 1) → ST.1 3 = nI o → (∀ i : Nat, i < nT → ST.2 i = nI (if i < t then i else if i < x then i + 1 else i)) → ∃ ST' : zTS, f_X10_skip_l25 N S n ST (nI t) (nI x) = some ST' ∧ (∀ M : zMS, M.1 7 = nI o → M.1 34 = nI t → rbPos nT t ST' M) ∧ ST'.1 4 = ST.1 4 := by
    intro j
    induction j with
    | zero =>
      intro x n ST hx htx hn h2 h3 hi
      cases n with
      | zero => omega
      | succ n =>
        have hx : x = nT - 1 := by omega
        subst hx
        have hu : rbTu nT t = nT - 1 := if_pos ht
        have pos : ∀ (ST2 : zTS) (q : Nat), ST2.1 2 = nI (nT - 1) → ST2.2 = ST.2 → ST2.1 3 = nI q → q ≤ 7 → (0 < nT - 1 → q < nT - 1 ∧ rbAt2 t q = if o = t then rbNx nT o else o) → ∀ M : zMS, M.1 7 = nI o → M.1 34 = nI t → rbPos nT t ST2 M := by
          intro ST2 q g2 g4 g3 gq g M m7 m34
          refine ⟨Or.inl ⟨ht, m34⟩, by rw [hu]; exact g2, ?_, o, q, m7, g3, Or.inl ho, by omega, gq, ?_⟩
          · intro i hi2
            rw [hu] at hi2
            rw [g4, hi i (by omega)]
            congr 1
            unfold rbAt2
            rw [if_pos hi2]
          · rw [hu]; exact g
        rw [s_X10_skip_l25]
        show ∃ ST', kB _ _ _ = _ ∧ _
        rw [h2, kB_p (nI_le (by omega) (by omega)), h3]
        by_cases c : o ≤ t
        · rw [kB_p (nI_le c (by omega))]
          unfold f_X10_skip_b71
          rw [h3, h2]
          by_cases d : o < nT - 1
          · rw [kB_p (nI_lt d (by omega))]
            refine ⟨ST, rfl, pos ST o h2 rfl h3 (by omega) ?_, rfl⟩
            intro _
            refine ⟨d, ?_⟩
            unfold rbAt2 rbNx
            repeat' split
            all_goals omega
          · rw [kB_n (nI_nlt (by omega) (by omega)), kL_p]
            refine ⟨_, rfl, pos _ 0 h2 rfl (tSI_s _ _ _) (by omega) ?_, rfl⟩
            intro hz
            refine ⟨hz, ?_⟩
            unfold rbAt2 rbNx
            repeat' split
            all_goals omega
        · rw [kB_n (nI_ge (by omega) (by omega)), kL_p, kL_p]
          unfold f_X10_skip_b71
          obtain ⟨o', rfl⟩ : ∃ o', o = o' + 1 := ⟨o - 1, by omega⟩
          rw [tSI_s, tSI_o _ _ (by decide), h2, nI_pred, kB_p (nI_lt (by omega) (by omega))]
          refine ⟨_, rfl, pos _ o' h2 rfl (tSI_s _ _ _) (by omega) ?_, rfl⟩
          intro hz
          refine ⟨by omega, ?_⟩
          unfold rbAt2 rbNx
          repeat' split
          all_goals omega
    | succ j ih =>
      intro x n ST hx htx hn h2 h3 hi
      cases n with
      | zero => omega
      | succ n =>
        obtain ⟨ST', i1, i2, i3⟩ := ih (x + 1) n (tSA ST (upd ST.2 x (ST.2 (x + 1)))) (by omega) (by omega) (by omega) h2 h3 (by
          intro i hi2
          show upd ST.2 x (ST.2 (x + 1)) i = _
          by_cases c : i = x
          · subst c
            rw [pk_us, hi (i + 1) (by omega)]
            congr 1
            repeat' split
            all_goals omega
          · rw [pk_un c, hi i hi2]
            congr 1
            repeat' split
            all_goals omega)
        rw [s_X10_skip_l25]
        show ∃ ST', kB _ _ _ = _ ∧ _
        rw [h2, kB_n (nI_ge (by omega) (by omega)), kL_p, nI_1, kO_p (nI_in (by omega) (by decide)), kO_p (nI_in (by omega) (by decide)), nI_clamp (by omega), nI_clamp (by omega), kL_p, kL_p]
        exact ⟨ST', i1, i2, i3⟩
  obtain ⟨n', rfl⟩ : ∃ n', nT = n' + 1 := ⟨nT - 1, by omega⟩
  obtain ⟨ST', i1, i2, i3⟩ := lp (n' - t) t N (tSI ST 2 (nI n')) (by omega) (Nat.le_refl _) (by omega) (tSI_s _ _ _) h3 (by
    intro i hi2
    show ST.2 i = _
    rw [hi i hi2]
    congr 1
    repeat' split
    all_goals omega)
  refine ⟨ST', ?_, i2, i3⟩
  unfold f_X10_skip
  rw [kB_n (nI_pos (by omega)), h2, kB_p (nI_lt ht (by omega)), kL_p, nI_pred, kL_p]
  exact i1
theorem rb_without_l (hN : 101 ≤ N) (hp : p < nP) (hw : SN.2.2.1 p = some w) : ∀ (j x n n' : Nat) (ST : zTS) (S : zHS) (SE : List ((Nat → Nat) × zQS)) (SM : zMS) (v0 x2 x3 : Int32), x + j = nT → j < n → j < n' → rbVal x2 → rbNow SN SB SD SE nT nP L → rbJ (mSI SB 34 v0) SM → rbQ (f_X11_without_l43 N SX SN SK SR SV SG SY SZ SD n ST S SE w x2 x3 (nI x)) (f_X12_without_l22 N n' SM (nI p) x2 x3 (nI x)) SB SE
  | j, x, 0, n', ST, S, SE, SM, v0, x2, x3, _, h, _, _, _, _ => by omega
  | j, x, n + 1, 0, ST, S, SE, SM, v0, x2, x3, _, _, h, _, _, _ => by omega
  | 0, x, n + 1, n' + 1, ST, S, SE, SM, v0, x2, x3, hx, _, _, _, hn, hj => by
    have hT := hn.1.1
    have h0 : SM.1 0 = nI nT := (hj.1 0 (by decide)).trans hT.2.1
    have hend : rbJ SB (mSI SM 34 (-1)) := by
      have := hj.mI (k := 34) (v := -1)
      rw [mSI_u, mSI_id hn.2.2.2.2.2.2.1] at this
      exact this
    rw [s_X11_without_l43, s_X12_without_l22]
    show rbQ (kB _ _ _) (kB _ _ _) _ _
    rw [hT.1, h0, kB_p (nI_le (by omega) (by omega)), kB_p (nI_le (by omega) (by omega)), kL_p]
    exact ⟨_, _, _, _, _, rfl, rfl, hend, rbSE.rf⟩
  | j + 1, x, n + 1, n' + 1, ST, S, SE, SM, v0, x2, x3, hx, hn1, hn2, h3, hn, hj => by
    have hT := hn.1.1
    have h0 : SM.1 0 = nI nT := (hj.1 0 (by decide)).trans hT.2.1
    obtain ⟨ST1, S1, t1, t2, t3, t4, t5, t6, -, -⟩ := rb_tr hN hn ST S
    have hj2 : rbJ (mSI SB 34 (nI x)) (mSI SM 34 (nI x)) := by
      have := hj.mI (k := 34) (v := nI x)
      rw [mSI_u] at this
      exact this
    have hn0 := hn
    obtain ⟨a, b, c, ⟨o, d1, d2, d3, d4⟩, e, f, g, -⟩ := hn
    obtain ⟨ST3, k1, k2, k3⟩ := rb_skip (t := x) hN S1 t3 hT.2.2 t4 (t5.trans d1) (by omega) (by omega)
    have b1 : rbE S1 SB := b.eq t2
    obtain ⟨r, ST2, S2, SE2, SM2, q1, q2, q3, q4, q5⟩ := rb_tq (S := S1) (ST := ST3) (X := mSI SB 34 (nI x)) (a := x) hN (rbK.e (SM := SB) (SM' := mSI SB 34 (nI x)) rfl rfl rfl rfl (fun _ _ => rfl) (a.eq t2)) (show rbE S1 (mSI SB 34 (nI x)) from b1) (c.eq t2) (fun M m7 m34 => k2 M (m7.trans d2) (m34.trans (mSI_s _ _ _))) (rb_cp0 (M := mSI SB 34 (nI x)) (k3.trans t6) f (by decide)) hp (show S1.2.2.1 p = some w by rw [t2.2.2.2.2.2.1 p (by have := a.2.1.2.2; omega)]; exact hw) hj2
    obtain ⟨e0, f1, f2, -⟩ := rb_earl q5 h3 (f_X12_without_l22 N n' SM2 (nI p) x2 x3 (nI (x + 1))) (f_X12_without_l22 N n' SM2 (nI p) r (nI x) (nI (x + 1)))
    rw [s_X11_without_l43, s_X12_without_l22]
    show rbQ (kB _ _ _) (kB _ _ _) _ _
    rw [hT.1, h0, kB_n (nI_ge (by omega) (by omega)), kB_n (nI_ge (by omega) (by omega)), t1, kD_p, k1, kC_p, q1, kD4_p, f1, kC_p]
    simp only [kL_p, nI_1]
    rw [q2, kD_p]
    rw [f2]
    have hn' := hn0.j rbJ.rf q4
    by_cases c : e0 = 0
    · rw [kB_p c, kB_p c]
      obtain ⟨r', ST', S', SE', SM', u1, u2, u3, u4⟩ := rb_without_l hN hp hw j (x + 1) n n' ST2 S2 SE2 SM2 (nI x) x2 x3 (by omega) (by omega) (by omega) h3 hn' (hj2.tr q3)
      exact ⟨r', ST', S', SE', SM', u1, u2, u3, q4.tr u4⟩
    · rw [kB_n c, kB_n c]
      obtain ⟨r', ST', S', SE', SM', u1, u2, u3, u4⟩ := rb_without_l hN hp hw j (x + 1) n n' ST2 S2 SE2 SM2 (nI x) r (nI x) (by omega) (by omega) (by omega) q5 hn' (hj2.tr q3)
      exact ⟨r', ST', S', SE', SM', u1, u2, u3, q4.tr u4⟩
theorem rb_without (hN : 101 ≤ N) (hn : rbNow SN SM SD SE nT nP L) (x1 : Int32) : rbQ (f_X11_without N SX SN SK ST S SR SV SG SY SZ SD SE x1) (f_X12_without N SM x1) SM SE := by
  have hT := hn.1.1.2.2
  unfold f_X11_without f_X12_without
  rcases rb_pc hn.1 x1 with ⟨e1, e2⟩ | ⟨p, w, k, v, hp, rfl, e1, e3, -, -, -, -, -, e2⟩
  · rw [e1, kC_p, kN_p0, e2, kC_p, kB_00]; exact ⟨_, _, _, _, _, rfl, rfl, rbJ.rf, rbSE.rf⟩
  · obtain ⟨ST1, S1, r, ST2, S2, SE2, SM2, t1, t2, t3, t4, t5, t6⟩ := rb_tp hN hn hp e3 ST S
    have hn' := hn.j t4 t5
    rw [e1, kC_p, kN_p1, e2, kC_p, kB_10, t1, kD_p, t2, kD4_p, t3, kD_p]
    obtain ⟨r', ST', S', SE', SM', u1, u2, u3, u4⟩ := rb_without_l (SX := SX) (SR := SR) (SK := SK) (SV := SV) (SG := SG) (SY := SY) (SZ := SZ) hN hp e3 nT 0 N N ST2 S2 SE2 SM2 (-1) r (-5) (by omega) (by omega) (by omega) t6 hn' (by rw [mSI_id hn'.2.2.2.2.2.2.1]; exact rbJ.rf)
    exact ⟨r', ST', S', SE', SM', u1, u2, t4.tr u3, t5.tr u4⟩
/-! evenings -/
theorem rb_habits (hN : 101 ≤ N) (h7 : S.1 7 = nI nT) (h0 : SM.1 0 = nI nT) (hT : nT ≤ 7) (he : ∀ t : Nat, t < 7 → S.2.1 2 t = SM.2.1 10 t) : ∃ v : Int32, f_X1_habits N S = some v ∧ ∀ x3 x4 x5 : Int32, f_X12_evenings_l102 N N SM x3 x4 x5 0 0 = kC (f_X12_putBack N SM) (fun C => kB (x3 = 0) (some (x5, C)) (kB (x3 = 1) (some (x4, C)) (some (v, C)))) := by
  have lp : ∀ (j x n n' : Nat) (s : Int32), x + j = nT → j < n → j < n' → ∃ v : Int32, f_X1_habits_l4 N S n s (nI x) = some v ∧ ∀ x3 x4 x5 : Int32, f_X12_evenings_l102 N n' SM x3 x4 x5 s (nI x) = kC (f_X12_putBack N SM) (fun C => kB (x3 = 0) (some (x5, C)) (kB (x3 = 1) (some (x4, C)) (some (v, C)))) := by
    intro j
    induction j with
    | zero =>
      intro x n n' s hx hn hn'
      cases n with
      | zero => omega
      | succ n =>
        cases n' with
        | zero => omega
        | succ n' =>
          refine ⟨s, ?_, ?_⟩
          · rw [s_X1_habits_l4]
            show kB _ _ _ = _
            rw [h7, kB_p (nI_le (by omega) (by omega))]
          · intro x3 x4 x5
            rw [s_X12_evenings_l102]
            show kB _ _ _ = _
            rw [h0, kB_p (nI_le (by omega) (by omega))]
    | succ j ih =>
      intro x n n' s hx hn hn'
      cases n with
      | zero => omega
      | succ n =>
        cases n' with
        | zero => omega
        | succ n' =>
          obtain ⟨v, v1, v2⟩ := ih (x + 1) n n' (s + S.2.1 2 x) (by omega) (by omega) (by omega)
          refine ⟨v, ?_, ?_⟩
          · rw [s_X1_habits_l4]
            show kB _ _ _ = _
            rw [h7, kB_n (nI_ge (by omega) (by omega)), kB_n (show ¬ (7 : Int32) ≤ nI x from nI_ge (b := 7) (by omega) (by decide)), kO_p (nI_in (by omega) (by decide)), nI_clamp (by omega), kL_p, kL_p, nI_1, v1]
          · intro x3 x4 x5
            rw [s_X12_evenings_l102]
            show kB _ _ _ = _
            rw [h0, kB_n (nI_ge (by omega) (by omega)), kO_p (nI_in (by omega) (by decide)), nI_clamp (by omega), kL_p, kL_p, nI_1, ← he x (by omega), v2]
  exact lp nT 0 N N 0 (by omega) (by omega) (by omega)
theorem rb_even_l (hN : 101 ≤ N) (hp : p < nP) {SM1 : zMS} {x3 : Int32} (hk : rbKept SB SM1) (hm : m ≤ 10) : ∀ (j x n n' e : Nat) (ST : zTS) (S : zHS) (SE : List ((Nat → Nat) × zQS)) (SM : zMS) (x5 x6 : Int32), x + j = m → j < n → j < n' → SM.1 2 = nI e → e ≤ 9999 + x → S.2.2.1 p = some w → rbT S SM SD SE nT nP L 7 (60 * j) ST → rbFr SM1 SM → rbQ (f_X11_evenings_l60 N SX SN SK SR SV SG SY SZ SD n ST S SE (nI m) x3 w x5 x6 (nI x)) (f_X12_evenings_l47 N n' SM (nI p) (nI m) x3 x6 x5 (nI x)) SB SE
  | j, x, 0, n', e, ST, S, SE, SM, x5, x6, _, h, _, _, _, _, _, _ => by omega
  | j, x, n + 1, 0, e, ST, S, SE, SM, x5, x6, _, _, h, _, _, _, _, _ => by omega
  | 0, x, n + 1, n' + 1, e, ST, S, SE, SM, x5, x6, hx, _, _, h2, h2e, hw, h, hf => by
    have hT := h.1.1
    obtain ⟨C, c1, c2, -⟩ := rb_putBack hN hk hf
    obtain ⟨v, v1, v2⟩ := rb_habits hN hT.1 hT.2.1 hT.2.2 (fun t ht => (h.2.1.2.2.2.2.2.2.2 t ht).1)
    rw [s_X11_evenings_l60, s_X12_evenings_l47]
    show rbQ (kB _ _ _) (kB _ _ _) _ _
    rw [kB_p (nI_le (by omega) (by omega)), kB_p (nI_le (by omega) (by omega)), v2, c1, kC_p, v1, kC_p]
    by_cases y0 : x3 = 0
    · rw [kB_p y0, kB_p y0]; exact ⟨_, _, _, _, _, rfl, rfl, c2, rbSE.rf⟩
    · rw [kB_n y0, kB_n y0]
      by_cases y1 : x3 = 1
      · rw [kB_p y1, kB_p y1]; exact ⟨_, _, _, _, _, rfl, rfl, c2, rbSE.rf⟩
      · rw [kB_n y1, kB_n y1]; exact ⟨_, _, _, _, _, rfl, rfl, c2, rbSE.rf⟩
  | j + 1, x, n + 1, n' + 1, e, ST, S, SE, SM, x5, x6, hx, hn1, hn2, h2, h2e, hw, h, hf => by
    have hT := h.1.1
    obtain ⟨ST1, S1, SE1, SM2, k, r1, r2, -, r4, ⟨q1, q2, q3, q4⟩, -⟩ := rb_run1 (a := 7) hN hp (w := w) (m := 60) (Nat.le_refl _) 60 0 N N (60 * j) ST S SE SM (by omega) (by omega) (by omega) hw (by rw [show 60 * j + 60 = 60 * (j + 1) by omega]; exact h)
    obtain ⟨w1, w2⟩ := rb_how hN r4.1 r4.2.1
    have r1' : f_X10_run N ST S SD SE (some w) (some w) 60 = some (ST1, S1, SE1) := r1
    have r2' : f_X12_goAsks N SM (nI p) 60 = some (nI k, SM2) := r2
    obtain ⟨g1, g2, g3, ⟨y1, y2, y3, y4⟩, g5⟩ := r4
    -- the night
    let S2 : zHS := hSI (hSI (hSI (hSI (hSI (hSI S1 11 0) 12 0) 13 0) 14 0) 15 0) 16 (S1.1 16 + 1)
    let M2 : zMS := mSI (mSI (mSI (mSI (mSI (mSI SM2 3 0) 4 0) 5 0) 6 0) 7 0) 2 (SM2.1 2 + 1)
    have n1 : f_X1_sleepOver S1 = some S2 := rfl
    have n2 : f_X12_goNight SM2 = some M2 := rfl
    have fM : rbFr SM2 M2 := (((((rbFr.rf.I (by decide)).I (by decide)).I (by decide)).I (by decide)).I (by decide)).I (by decide)
    have fS : rbFh S1 S2 := (((((rbFh.rf.I (by decide)).I (by decide)).I (by decide)).I (by decide)).I (by decide)).I (by decide)
    have e1 : SM2.1 2 = nI e := q4.trans h2
    have hu : rbTu nT 7 = nT := if_neg (by omega)
    have hT2 : rbT S2 M2 SD SE1 nT nP L 7 (60 * j) (tSI ST1 3 0) := by
      refine ⟨g1.fr fS fM, ⟨rfl, ⟨0, by omega, rfl⟩, rfl, rfl, rfl, ?_, ⟨e + 1, by omega, ?_⟩, g2.2.2.2.2.2.2.2⟩, g3.e rfl rbSE.rf, ⟨y1, y2, y3, 0, 0, rfl, rfl, by omega, by omega, by omega, ?_⟩, g5⟩
      · show S1.1 16 + 1 = SM2.1 2 + 1
        rw [g2.2.2.2.2.2.1]
      · show SM2.1 2 + 1 = _
        rw [e1, nI_1]
      · intro hz
        rw [hu] at hz ⊢
        exact ⟨hz, rfl⟩
    have hfr : rbFr SM1 M2 := (hf.tr q3).tr fM
    rw [s_X11_evenings_l60, s_X12_evenings_l47]
    show rbQ (kB _ _ _) (kB _ _ _) _ _
    rw [kB_n (nI_ge (by omega) (by omega)), kB_n (nI_ge (by omega) (by omega)), r1', kD3_p, w1, kC_p, r2', kD_p, w2, kC_p]
    unfold f_X11_evenings_b108 f_X12_evenings_b77
    simp only [kL_p]
    rw [n1, kC_p, kC_p, n2, kC_p, kC_p, nI_1, g2.1]
    have fin : ∀ x6' : Int32, rbQ (f_X11_evenings_l60 N SX SN SK SR SV SG SY SZ SD n (tSI ST1 3 0) S2 SE1 (nI m) x3 w (SM2.1 3) x6' (nI (x + 1))) (f_X12_evenings_l47 N n' M2 (nI p) (nI m) x3 x6' (SM2.1 3) (nI (x + 1))) SB SE := by
      intro x6'
      obtain ⟨r', ST', S', SE', SM', u1, u2, u3, u4⟩ := rb_even_l hN hp hk hm j (x + 1) n n' (e + 1) (tSI ST1 3 0) S2 SE1 M2 (SM2.1 3) x6' (by omega) (by omega) (by omega) (by show SM2.1 2 + 1 = _; rw [e1, nI_1]) (by omega) (by show S1.2.2.1 p = _; rw [q2.2.2]; exact hw) hT2 hfr
      exact ⟨r', ST', S', SE', SM', u1, u2, u3, q1.tr u4⟩
    by_cases c : rbHow S1 = 2
    · rw [kB_p c, kB_p c]
      exact fin (x6 + 1)
    · rw [kB_n c, kB_n c, Int32.add_zero]
      exact fin x6
theorem rb_even (hN : 101 ≤ N) (hn : rbNow SN SM SD SE nT nP L) (x1 x2 x3 : Int32) : rbQ (f_X11_evenings N SX SN SK ST S SR SV SG SY SZ SD SE x1 x2 x3) (f_X12_evenings N SM x1 x2 x3) SM SE := by
  unfold f_X11_evenings f_X12_evenings
  have base : ∀ v : Int32, rbQ (some (v, ST, S, SE)) (some (v, SM)) SM SE := fun v => ⟨_, _, _, _, _, rfl, rfl, rbJ.rf, rbSE.rf⟩
  rcases rb_pc hn.1 x1 with ⟨e1, e2⟩ | ⟨p, w, k, v, hp, rfl, e1, e3, -, -, -, -, -, e2⟩
  · rw [e1, kC_p, kN_p0, e2, kC_p, kB_00]; exact base _
  · rw [e1, kC_p, kN_p1, e2, kC_p, kB_10]
    by_cases c : x3 < 0
    · rw [kB_p c, rb_in0 (Or.inl c), kC_p, kB_00]; exact base _
    · rw [kB_n c]
      by_cases d : x3 ≤ 2
      · rw [kB_p d, rb_in1 c d, kC_p, kB_10]
        by_cases c2 : x2 < 1
        · rw [kB_p c2, rb_in0 (Or.inl c2), kC_p, kB_00]; exact base _
        · rw [kB_n c2]
          by_cases d2 : x2 ≤ 10
          · have c3 : ¬ x2 < 0 := by
              intro q
              apply c2
              rw [Int32.lt_iff_toInt_lt] at q ⊢
              have z0 : (0 : Int32).toInt = 0 := rfl
              have z1 : (1 : Int32).toInt = 1 := rfl
              omega
            obtain ⟨m, hm, rfl⟩ := nI_of2 (M := 10) (n := 10) rfl c3 d2
            rw [kB_p d2, rb_in1 c2 d2, kC_p, kB_10]
            obtain ⟨ST1, S1, t1, t2, t3, t4, t5, t6, -, -⟩ := rb_tr hN hn ST S
            obtain ⟨SM1, s1, s2⟩ := rb_save hN SM
            rw [t1, kD_p, s1, kC_p]
            obtain ⟨a, b, c, ⟨o, d1, d2, d3, d4⟩, e, f, g, -, -, -, -, ee, ee1, ee2⟩ := hn
            have hP := a.2.1.2.2
            exact rb_even_l hN hp (w := w) s2 hm m 0 N N ee ST1 S1 SE SM1 0 0 (by omega) (by omega) (by omega) ((s2.1 2 (by decide)).trans ee2) (by omega) (by rw [t2.2.2.2.2.2.1 p (by omega)]; exact e3) ⟨s2.K (a.eq t2), s2.E (b.eq t2), c.eq t2, rb_pos0 t3 a.1.2.2 t4 (t5.trans d1) ((s2.1 7 (by decide)).trans d2) d3 d4 ((s2.1 34 (by decide)).trans g), rb_cp0 t6 ((s2.1 33 (by decide)).trans f) (by omega)⟩ rbFr.rf
          · rw [kB_n d2, rb_in0 (Or.inr d2), kC_p, kB_00]; exact base _
      · rw [kB_n d, rb_in0 (Or.inr d), kC_p, kB_00]; exact base _
end RBV
