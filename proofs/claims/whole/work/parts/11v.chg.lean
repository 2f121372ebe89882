/-! B: the calls that change how all is -/
section RBCH
variable {N nT nP p : Nat} {L : List rbCl} {HS : List (Nat × List rbCl)} {SX SX' SR SR' : zRS} {SN SN' SK S : zHS} {ST : zTS} {SM SM' : zMS} {SV SV' : Nat → Nat → Int64} {SG SG' SY SZ : Nat → Int32} {SD SD' : List (Nat × zPS)} {SE SE' : List ((Nat → Nat) × zQS)} {nT' nP' : Nat}
theorem rbAll.m (b : rbHs HS SX SM SE) (c : rbLk HS L SN SM) (d : rbIm SX SK SM SD SE HS) (e : rbTx SR SM) (f : rbTg SG SM) (g : rbTp SX SV SM) (l : rbLt SM) (hi : ∀ k : Nat, k ∉ rbNI → k = 35 ∨ SM'.1 k = SM.1 k) (ha : ∀ k : Nat, k ∉ rbNA → SM'.2.1 k = SM.2.1 k) (h2 : SM'.2.2 = SM.2.2) (s : rbSE SE SE') (dd : rbSD SD SD') (hh : SN'.2.2.2 = SN.2.2.2) (hn : rbNow SN' SM' SD' SE' nT' nP' L) : rbAll SX SN' SK SR SV SG SD' SE' SM' := by
  have hi' : ∀ k : Nat, k ∉ rbNI → k ≠ 35 → SM'.1 k = SM.1 k := fun k h1 h2 => (hi k h1).resolve_left h2
  refine ⟨nT', nP', L, HS, hn, b.e rfl s (hi' 14 (by decide) (by decide)) (fun k hk => ha k (mem_ne (by decide) hk)), ?_, d.e rfl s dd (hi' 50 (by decide) (by decide)) (fun k hk => hi' k (mem_ne (by decide) hk) (by intro e; subst e; revert hk; decide)) (fun k hk => ha k (mem_ne (by decide) hk)), ?_, ?_, ?_, ?_⟩
  · unfold rbLk; rw [hi' 15 (by decide) (by decide), hh]; exact c
  · unfold rbTx; rw [hi' 16 (by decide) (by decide), ha 19 (by decide)]; exact e
  · unfold rbTg; rw [hi' 70 (by decide) (by decide), ha 71 (by decide)]; exact f
  · unfold rbTp; rw [ha 72 (by decide), ha 73 (by decide), h2]; exact g
  · unfold rbLt; rw [ha 30 (by decide)]; exact l
theorem rbAll.o (hi : ∀ k : Nat, k ∉ ([16, 17, 18, 27, 28, 29, 70] : List Nat) → SM'.1 k = SM.1 k) (ha : ∀ k : Nat, k ∉ ([19, 26, 71, 72, 73] : List Nat) → SM'.2.1 k = SM.2.1 k) (hx : SX'.1 10 = SX.1 10) (hx1 : SX'.1 11 = SX.1 11) (tx : rbTx SR SM → rbTx SR' SM') (tg : rbTg SG SM → rbTg SG' SM') (tp : rbTp SX SV SM → rbTp SX' SV' SM') (h : rbAll SX SN SK SR SV SG SD SE SM) : rbAll SX' SN SK SR' SV' SG' SD SE SM' := by
  obtain ⟨nT, nP, L, HS, a, b, c, d, e, f, g, l⟩ := h
  have rel : rbRel SM SM' := ⟨fun k hk => hi k (mem_ne (by decide) hk), fun k hk => ha k (mem_ne (by decide) hk), fun t _ => ⟨by rw [ha 8 (by decide)], by rw [ha 9 (by decide)], by rw [ha 10 (by decide)]⟩, fun p _ => ⟨by rw [ha 11 (by decide)], by rw [ha 12 (by decide)]⟩, fun i _ => by rw [ha 13 (by decide)], fun i _ => by rw [ha 47 (by decide)], fun i _ => by rw [ha 49 (by decide)]⟩
  refine ⟨nT, nP, L, HS, a.p rel rbSE.rf rbSD.rf, b.e hx rbSE.rf (hi 14 (by decide)) (fun k hk => ha k (mem_ne (by decide) hk)), ?_, d.e hx1 rbSE.rf rbSD.rf (hi 50 (by decide)) (fun k hk => hi k (mem_ne (by decide) hk)) (fun k hk => ha k (mem_ne (by decide) hk)), tx e, tg f, tp g, ?_⟩
  · unfold rbLk; rw [hi 15 (by decide)]; exact c
  · unfold rbLt; rw [ha 30 (by decide)]; exact l
theorem rb_feed (h : rbAll SX SN SK SR SV SG SD SE SM) (x1 : Int32) : ∃ r SR' SM', f_X11_feed SX SN SK ST S SR SV SG SY SZ SD SE x1 = some (r, SR') ∧ f_X12_feed SM x1 = some (r, SM') ∧ rbAll SX SN SK SR' SV SG SD SE SM' := by
  have h0 := h
  obtain ⟨nT, nP, L, HS, -, -, -, -, ⟨n, n1, n2, n3, n4⟩, -⟩ := h
  unfold f_X11_feed f_X12_feed
  by_cases c : x1 < 0
  · rw [kB_p c, rb_in0 (Or.inl c), kC_p, kB_00]; exact ⟨_, _, _, rfl, rfl, h0⟩
  · rw [kB_n c]
    by_cases d : x1 ≤ 127
    · obtain ⟨y, hy, rfl⟩ := nI_of2 (M := 127) (n := 127) rfl c d
      rw [kB_p d, rb_in1 c d, kC_p, kB_10, n2, n3]
      by_cases e : n < 100
      · rw [kB_p (show nI n < (100 : Int32) from nI_lt (b := 100) e (by decide)), kB_n (show ¬ nI n = (100 : Int32) from fun q => by have := (nI_eq (b := 100) (by omega) (by decide)).mp q; omega)]
        simp only [kL_p]
        rw [kO_p (nI_in e (by decide)), kO_p (nI_in e (by decide)), nI_clamp (by omega), nI_1]
        have e9 : ∀ f, (mSA SM 19 f).1 16 + 1 = nI (n + 1) := fun f => by rw [mSA_1, n3, nI_1]
        rw [e9]
        refine ⟨nI (n + 1), _, _, rfl, rfl, ?_⟩
        · refine rbAll.o (SM := SM) (SR := SR) (SX := SX) (SV := SV) (SG := SG) ?_ ?_ rfl rfl (fun _ => ?_) (fun k => k) (fun k => k) h0
          · intro k hk
            exact mSI_o _ _ (by intro e; subst e; exact hk (by decide))
          · intro k hk
            exact mSA_o _ _ (by intro e; subst e; exact hk (by decide))
          · refine ⟨n + 1, by omega, rfl, ?_, ?_⟩
            · show nI (n + 1) = _
              rfl
            · intro i hi
              show upd (SR.2 0) n (nI y) i = upd (SM.2.1 19) n (nI y) i ∧ ∃ c, c < 128 ∧ upd (SM.2.1 19) n (nI y) i = nI c
              by_cases q : i = n
              · subst q
                rw [pk_us, pk_us]
                exact ⟨rfl, y, by omega, rfl⟩
              · rw [pk_un q, pk_un q]
                exact n4 i (by omega)
      · have : n = 100 := by omega
        subst this
        rw [kB_n (by decide), kB_p (by decide)]; exact ⟨_, _, _, rfl, rfl, h0⟩
    · rw [kB_n d, rb_in0 (Or.inr d), kC_p, kB_00]; exact ⟨_, _, _, rfl, rfl, h0⟩
theorem rb_habit (h : rbAll SX SN SK SR SV SG SD SE SM) (x1 x2 : Int32) : ∃ r SN' SM', f_X11_habit SX SN SK ST S SR SV SG SY SZ SD SE x1 x2 = some (r, SN') ∧ f_X12_habit SM x1 x2 = some (r, SM') ∧ rbAll SX SN' SK SR SV SG SD SE SM' := by
  have h0 := h
  obtain ⟨nT, nP, L, HS, a, b, c, d, e, f, g, l⟩ := h
  have hT := a.1.1.2.2
  unfold f_X11_habit f_X12_habit
  rcases rb_tc a.1 x1 with ⟨e1, e2⟩ | ⟨t, ht, rfl, e1, e2⟩
  · rw [e1, e2, kC_p, kC_p, kB_00, kB_00]; exact ⟨_, _, _, rfl, rfl, h0⟩
  · rw [e1, e2, kC_p, kC_p, kB_10, kB_10]
    by_cases c0 : x2 < 0
    · rw [kB_p c0, rb_in0 (Or.inl c0), kC_p, kB_00]; exact ⟨_, _, _, rfl, rfl, h0⟩
    · rw [kB_n c0]
      by_cases d0 : x2 ≤ 999
      · obtain ⟨y, hy, rfl⟩ := nI_of2 (M := 999) (n := 999) rfl c0 d0
        rw [kB_p d0, rb_in1 c0 d0, kC_p, kB_10, kO_p (nI_in (by omega) (by decide)), kO_p (nI_in (by omega) (by decide)), kO_p (nI_in (by omega) (by decide)), kO_p (nI_in (by omega) (by decide)), nI_clamp (by omega), kL_p, kL_p, (a.2.1.2.2.2.2.2.2.2 t (by omega)).1]
        refine ⟨_, _, _, rfl, rfl, ?_⟩
        refine rbAll.m b c d e f g l (fun k _ => Or.inr rfl) (fun k hk => mSA_o _ _ (by intro e; subst e; exact hk (by decide))) rfl rbSE.rf rbSD.rf rfl (nT' := nT) (nP' := nP) ?_
        obtain ⟨⟨a1, a2, a3, a4, a5, a6, a7, a8⟩, ⟨g1, g2, g3, g4, g5, g6, g7, g8⟩, a9⟩ := a
        refine ⟨⟨a1, a2, a3, a4, a5, a6, rbMc.e (SM := SM) rfl rfl rfl rfl rfl rfl rfl a7, a8⟩, ⟨g1, g2, g3, g4, g5, g6, g7, ?_⟩, a9⟩
        intro t2 ht2
        show upd (SN.2.1 2) t (nI y) t2 = upd (SM.2.1 10) t (nI y) t2 ∧ ∃ h, h ≤ 999 ∧ upd (SM.2.1 10) t (nI y) t2 = nI h
        by_cases q : t2 = t
        · subst q
          rw [pk_us, pk_us]
          exact ⟨rfl, y, hy, rfl⟩
        · rw [pk_un q, pk_un q]
          exact g8 t2 ht2
      · rw [kB_n d0, rb_in0 (Or.inr d0), kC_p, kB_00]; exact ⟨_, _, _, rfl, rfl, h0⟩
theorem rb_row (h : rbAll SX SN SK SR SV SG SD SE SM) (x1 x2 x3 : Int32) : ∃ r SN' SM', f_X11_row SX SN SK ST S SR SV SG SY SZ SD SE x1 x2 x3 = some (r, SN') ∧ f_X12_row SM x1 x2 x3 = some (r, SM') ∧ rbAll SX SN' SK SR SV SG SD SE SM' := by
  have h0 := h
  obtain ⟨nT, nP, L, HS, a, b, c, d, e, f, g, l⟩ := h
  have hP := a.1.2.1.2.2
  unfold f_X11_row f_X12_row
  rcases rb_pc a.1 x1 with ⟨e1, e2⟩ | ⟨p, w, k, v, hp, rfl, e1, e3, e4, k7, v9, e5, e6, e2⟩
  · rw [e1, kC_p, kN_p0, e2, kC_p, kB_00]; exact ⟨_, _, _, rfl, rfl, h0⟩
  · rw [e1, kC_p, kN_p1, e2, kC_p, kB_10]
    by_cases c0 : x2 < 0
    · rw [kB_p c0, rb_in0 (Or.inl c0), kC_p, kB_00]; exact ⟨_, _, _, rfl, rfl, h0⟩
    · obtain ⟨y, hy, rfl⟩ := nI_of c0
      have l4 : (nI y < 4) ↔ y < 4 := nI_ltI (b := 4) hy (by decide)
      have l3 : (nI y ≤ 3) ↔ y ≤ 3 := nI_leI (b := 3) hy (by decide)
      rw [kB_n c0]
      by_cases d0 : y < 4
      · rw [kB_p (l4.mpr d0), rb_in1 c0 (l3.mpr (by omega)), kC_p, kB_10]
        by_cases c1 : x3 < 0
        · rw [kB_p c1, rb_in0 (Or.inl c1), kC_p, kB_00]; exact ⟨_, _, _, rfl, rfl, h0⟩
        · rw [kB_n c1]
          by_cases d1 : x3 ≤ 1
          · obtain ⟨z, hz, rfl⟩ := nI_of2 (M := 1) (n := 1) rfl c1 d1
            have e4' : (4 : Int32) = nI 4 := rfl
            have hv : (4 : Int32) * nI p + nI y = nI (4 * p + y) := by rw [e4', pk_mul, nI_add]
            rw [kB_p d1, rb_in1 c1 d1, kC_p, kB_10, e4, kC_p, kO_p (nI_in (by omega) (by decide)), nI_clamp (show p < 2 ^ 31 by omega), e5]
            by_cases k6 : nI k = 6
            · simp only [kB_p k6, kL_p]
              rw [hv, kO_p (nI_in (by omega) (by decide)), kO_p (nI_in (by omega) (by decide)), kO_p (nI_in (by omega) (by decide)), kO_p (nI_in (by omega) (by decide)), nI_clamp (show 4 * p + y < 2 ^ 31 by omega), (a.1.2.2.2.2.1 (4 * p + y) (by omega)).1]
              refine ⟨_, _, _, rfl, rfl, ?_⟩
              refine rbAll.m b c d e f g l (fun k _ => Or.inr rfl) (fun k hk => mSA_o _ _ (by intro e; subst e; exact hk (by decide))) rfl rbSE.rf rbSD.rf rfl (nT' := nT) (nP' := nP) ?_
              obtain ⟨⟨a1, a2, a3, a4, a5, a6, a7, a8⟩, a9⟩ := a
              refine ⟨⟨a1, a2, a3, a4, ?_, a6, rbMc.e (SM := SM) rfl rfl rfl rfl rfl rfl rfl a7, a8⟩, a9⟩
              intro i hi
              show upd (SN.2.1 4) (4 * p + y) (nI z) i = upd (SM.2.1 13) (4 * p + y) (nI z) i ∧ (upd (SM.2.1 13) (4 * p + y) (nI z) i = 0 ∨ upd (SM.2.1 13) (4 * p + y) (nI z) i = 1)
              by_cases q : i = 4 * p + y
              · subst q
                rw [pk_us, pk_us]
                refine ⟨rfl, ?_⟩
                have : z = 0 ∨ z = 1 := by omega
                rcases this with rfl | rfl
                · exact Or.inl rfl
                · exact Or.inr rfl
              · rw [pk_un q, pk_un q]
                exact a5 i hi
            · simp only [kB_n k6]
              exact ⟨_, _, _, rfl, rfl, h0⟩
          · rw [kB_n d1, rb_in0 (Or.inr d1), kC_p, kB_00]; exact ⟨_, _, _, rfl, rfl, h0⟩
      · rw [kB_n (fun q => d0 (l4.mp q)), rb_in0 (Or.inr (fun q => d0 (by have := l3.mp q; omega))), kC_p, kB_00]; exact ⟨_, _, _, rfl, rfl, h0⟩
theorem rb_hush (h : rbAll SX SN SK SR SV SG SD SE SM) : ∃ r SN' SM', f_X11_hush SX SN SK ST S SR SV SG SY SZ SD SE = some (r, SN') ∧ f_X12_hush SM = some (r, SM') ∧ rbAll SX SN' SK SR SV SG SD SE SM' := by
  obtain ⟨nT, nP, L, HS, a, b, c, d, e, f, g, l⟩ := h
  obtain ⟨a1, a2, a3, a4, a5, a6, a7, a8, a9, ⟨hh, h8, h9, h46⟩, a10⟩ := a
  unfold f_X11_hush f_X12_hush
  simp only [kL_p]
  rw [h9, h46]
  refine ⟨_, _, _, rfl, rfl, ?_⟩
  refine rbAll.m b c d e f g l (fun k hk => Or.inr (mSI_o _ _ (by intro e; subst e; exact hk (by decide)))) (fun k hk => rfl) rfl rbSE.rf rbSD.rf rfl (nT' := nT) (nP' := nP) ?_
  exact ⟨rbK.e (SM := SM) rfl rfl rfl rfl (fun _ _ => rfl) a1, a2, a3, a4, a5, a6, a7, a8, a9, ⟨0, by omega, rfl, rfl⟩, a10⟩
theorem rb_hear (h : rbAll SX SN SK SR SV SG SD SE SM) {x1 : Int32} (hx : x1 = 0 ∨ x1 = 1) : ∃ r SN' SM', f_X11_hear SX SN SK ST S SR SV SG SY SZ SD SE x1 = some (r, SN') ∧ f_X12_hear SM x1 = some (r, SM') ∧ rbAll SX SN' SK SR SV SG SD SE SM' := by
  have h0 := h
  obtain ⟨nT, nP, L, HS, a, b, c, d, e, f, g, l⟩ := h
  obtain ⟨a1, a2, a3, a4, a5, a6, a7, a8, a9, ⟨n, n8, h9, h46⟩, a10⟩ := a
  unfold f_X11_hear f_X12_hear
  rw [h9, h46]
  by_cases q : n < 8
  · rw [kB_p (show nI n < (8 : Int32) from nI_lt (b := 8) q (by decide)), kB_n (show ¬ nI n = (8 : Int32) from fun q2 => by have := (nI_eq (b := 8) (by omega) (by decide)).mp q2; omega)]
    simp only [kL_p]
    rw [kO_p (nI_in q (by decide)), kO_p (nI_in q (by decide)), kO_p hx, kO_p hx, nI_clamp (by omega), nI_1]
    have e9 : ∀ f, (mSA SM 47 f).1 46 + 1 = nI (n + 1) := fun f => by rw [mSA_1, h46, nI_1]
    rw [e9]
    refine ⟨nI (n + 1), _, _, rfl, rfl, ?_⟩
    · refine rbAll.m b c d e f g l (fun k hk => Or.inr (mSI_o _ _ (by intro e; subst e; exact hk (by decide)))) (fun k hk => mSA_o _ _ (by intro e; subst e; exact hk (by decide))) rfl rbSE.rf rbSD.rf rfl (nT' := nT) (nP' := nP) ?_
      refine ⟨rbK.e (SM := SM) rfl rfl rfl rfl (fun k hk => mSA_o _ _ (by intro e; subst e; revert hk; decide)) a1, a2, a3, a4, a5, a6, a7, a8, ?_, ⟨n + 1, by omega, rfl, rfl⟩, a10⟩
      intro i hi
      show upd (SN.2.1 5) n x1 i = upd (SM.2.1 47) n x1 i ∧ (upd (SM.2.1 47) n x1 i = 0 ∨ upd (SM.2.1 47) n x1 i = 1)
      by_cases z : i = n
      · subst z
        rw [pk_us, pk_us]
        exact ⟨rfl, hx⟩
      · rw [pk_un z, pk_un z]
        exact a9 i hi
  · have : n = 8 := by omega
    subst this
    rw [kB_n (by decide), kB_p (by decide)]; exact ⟨_, _, _, rfl, rfl, h0⟩
theorem rb_book (h : rbAll SX SN SK SR SV SG SD SE SM) (x1 : Int32) : ∃ r SN' SM', f_X11_book SX SN SK ST S SR SV SG SY SZ SD SE x1 = some (r, SN') ∧ f_X12_book SM x1 = some (r, SM') ∧ rbAll SX SN' SK SR SV SG SD SE SM' := by
  have h0 := h
  obtain ⟨nT, nP, L, HS, a, b, c, d, e, f, g, l⟩ := h
  obtain ⟨a1, a2, a3, a4, a5, a6, a7, a8, a9, a11, ⟨n, n12, h10, h48, hb⟩, a10⟩ := a
  unfold f_X11_book f_X12_book
  by_cases c1 : x1 = -1
  · rw [kB_p c1, kB_p c1]
    refine ⟨_, _, _, rfl, rfl, ?_⟩
    refine rbAll.m b c d e f g l (fun k hk => Or.inr (mSI_o _ _ (by intro e; subst e; exact hk (by decide)))) (fun k hk => rfl) rfl rbSE.rf rbSD.rf rfl (nT' := nT) (nP' := nP) ?_
    exact ⟨rbK.e (SM := SM) rfl rfl rfl rfl (fun _ _ => rfl) a1, a2, a3, a4, a5, a6, a7, a8, a9, a11, ⟨0, by omega, rfl, rfl, fun i hi => by omega⟩, a10⟩
  · rw [kB_n c1, kB_n c1]
    rcases rb_pc a1 x1 with ⟨e1, e2⟩ | ⟨p, w, k, v, hp, rfl, e1, e3, e4, k7, v9, e5, e6, e2⟩
    · rw [e1, kC_p, kN_p0, e2, kC_p, kB_00]; exact ⟨_, _, _, rfl, rfl, h0⟩
    · rw [e1, kC_p, kN_p1, e2, kC_p, kB_10, h10, h48]
      by_cases q : n < 12
      · rw [kB_p (show nI n < (12 : Int32) from nI_lt (b := 12) q (by decide)), kB_n (show ¬ nI n = (12 : Int32) from fun q2 => by have := (nI_eq (b := 12) (by omega) (by decide)).mp q2; omega)]
        simp only [kL_p]
        rw [kO_p (nI_in q (by decide)), kO_p (nI_in q (by decide)), nI_clamp (by omega), nI_1]
        have e9 : ∀ f, (mSA SM 49 f).1 48 + 1 = nI (n + 1) := fun f => by rw [mSA_1, h48, nI_1]
        rw [e9]
        refine ⟨nI (n + 1), _, _, rfl, rfl, ?_⟩
        · refine rbAll.m b c d e f g l (fun k hk => Or.inr (mSI_o _ _ (by intro e; subst e; exact hk (by decide)))) (fun k hk => mSA_o _ _ (by intro e; subst e; exact hk (by decide))) rfl rbSE.rf rbSD.rf rfl (nT' := nT) (nP' := nP) ?_
          refine ⟨rbK.e (SM := SM) rfl rfl rfl rfl (fun k hk => mSA_o _ _ (by intro e; subst e; revert hk; decide)) a1, a2, a3, a4, a5, a6, a7, a8, a9, a11, ⟨n + 1, by omega, rfl, rfl, ?_⟩, a10⟩
          intro i hi
          show ∃ p', p' < nP ∧ upd (SN.2.1 6) n (nI p) i = nI p' ∧ upd (SM.2.1 49) n (nI p) i = nI p'
          by_cases z : i = n
          · subst z
            rw [pk_us, pk_us]
            exact ⟨p, hp, rfl, rfl⟩
          · rw [pk_un z, pk_un z]
            exact hb i (by omega)
      · have : n = 12 := by omega
        subst this
        rw [kB_n (by decide), kB_p (by decide)]; exact ⟨_, _, _, rfl, rfl, h0⟩
theorem rb_night (hN : 101 ≤ N) (h : rbAll SX SN SK SR SV SG SD SE SM) : ∃ r SN' SM', f_X11_night SX SN SK ST S SR SV SG SY SZ SD SE = some (r, SN') ∧ f_X12_night N SM = some (r, SM') ∧ rbAll SX SN' SK SR SV SG SD SE SM' := by
  have h0 := h
  obtain ⟨nT, nP, L, HS, a, b, c, d, e, f, g, l⟩ := h
  obtain ⟨w1, w2⟩ := rb_how hN a.1 a.2.1
  obtain ⟨a1, ⟨g1, g2, g3, g4, g5, g6, g7, g8⟩, a3, ⟨o, o1, o2, o3, o4⟩, a5, a6, a7, a8, a9, a11, a12, ⟨ev, ev1, ev2⟩⟩ := a
  unfold f_X11_night f_X12_night
  rw [w1, w2, g6, ev2]
  by_cases q : ev < 9999
  · rw [kB_p (show nI ev < (9999 : Int32) from nI_lt (b := 9999) q (by decide)), kB_n (show ¬ nI ev = (9999 : Int32) from fun q2 => by have := (nI_eq (b := 9999) (by omega) (by decide)).mp q2; omega), kC_p, kC_p]
    unfold f_X1_sleepOver f_X12_goNight
    simp only [kL_p, kC_p]
    refine ⟨_, _, _, rfl, rfl, ?_⟩
    refine rbAll.m b c d e f g l (fun k hk => Or.inr ?_) (fun k hk => rfl) rfl rbSE.rf rbSD.rf rfl (nT' := nT) (nP' := nP) ?_
    · simp only [rbNI, List.mem_cons, List.not_mem_nil, or_false, not_or] at hk
      obtain ⟨k0, k1, k2, k3, k4, k5, k6, k7, -⟩ := hk
      rw [mSI_o _ _ k2, mSI_o _ _ k7, mSI_o _ _ k6, mSI_o _ _ k5, mSI_o _ _ k4, mSI_o _ _ k3]
    · have e1 : SM.1 2 + 1 = nI (ev + 1) := by rw [ev2, nI_1]
      refine ⟨rbK.e (SM := SM) rfl rfl rfl rfl (fun _ _ => rfl) (rbK.fr (S := SN) (SM := SM) (((((rbFh.rf.I (by decide)).I (by decide)).I (by decide)).I (by decide)).I (by decide) |>.I (by decide)) rbFr.rf a1), ⟨rfl, ⟨0, by omega, rfl⟩, rfl, rfl, rfl, ?_, ⟨ev + 1, by omega, e1⟩, g8⟩, a3, ⟨0, rfl, rfl, by omega, by omega⟩, a5, a6, a7, a8, a9, a11, a12, ⟨ev + 1, by omega, e1⟩⟩
      show SN.1 16 + 1 = SM.1 2 + 1
      rw [g6]
  · have : ev = 9999 := by omega
    subst this
    rw [kB_n (by decide), kB_p (by decide)]; exact ⟨_, _, _, rfl, rfl, h0⟩
end RBCH
