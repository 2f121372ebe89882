/-! B: who, looked -/
section RBH
variable {N : Nat} {SN S : zHS} {SM SB SM1 : zMS} {SD : List (Nat × zPS)} {SE : List ((Nat → Nat) × zQS)} {ST : zTS} {nT nP p w h : Nat} {L : List rbCl} {SX SR : zRS} {SK : zHS} {SV : Nat → Nat → Int64} {SG SY SZ : Nat → Int32}
theorem rb_heard0 (N n' : Nat) (SM : zMS) (x : Int32) (y : Int32) : f_X12_isHeard_l8 N (n' + 1) SM x 0 y = kC (f_X12_putBack N SM) (fun C => kO ((0 : Int32) = 0 ∨ (0 : Int32) = 1) (some ((0 : Int32), C))) := by
  rw [s_X12_isHeard_l8]
  show kB _ _ _ = _
  by_cases c : SM.1 46 ≤ y
  · rw [kB_p c]
  · rw [kB_n c, kB_00]
theorem rb_heard_l (hN : 101 ≤ N) (hp : p < nP) (h9 : SN.1 9 = nI h) (h46 : SM1.1 46 = nI h) (h8 : h ≤ 8) (hs : ∀ i : Nat, i < 8 → SN.2.1 5 i = SM1.2.1 47 i) : ∀ (j x n n' : Nat) (ST : zTS) (S : zHS) (SE : List ((Nat → Nat) × zQS)) (SM : zMS), x + j = h → j < n → j + 1 < n' → S.2.2.1 p = some w → rbT S SM SD SE nT nP L 7 j ST → rbFr SM1 SM →
    ∃ (r : Int32) (ST' : zTS) (S' : zHS) (SE' : List ((Nat → Nat) × zQS)) (SM' : zMS), (r = 0 ∨ r = 1) ∧ f_X11_makesSo_l13 N SX SN SK SR SV SG SY SZ SD n ST S SE (some w) (nI x) = some (r, ST', S', SE') ∧ f_X12_isHeard_l8 N n' SM (nI p) 1 (nI x) = kC (f_X12_putBack N SM') (fun C => kO (r = 0 ∨ r = 1) (some (r, C))) ∧ rbFr SM1 SM' ∧ rbSE SE SE'
  | j, x, 0, n', ST, S, SE, SM, _, hn, _, _, _, _ => by omega
  | j, x, n + 1, 0, ST, S, SE, SM, _, _, hn, _, _, _ => by omega
  | 0, x, n + 1, n' + 1, ST, S, SE, SM, hx, _, _, hw, hT, hf => by
    have e46 : SM.1 46 = nI h := (hf.1 46 (by decide)).trans h46
    refine ⟨1, ST, S, SE, SM, Or.inr rfl, ?_, ?_, hf, rbSE.rf⟩
    · rw [s_X11_makesSo_l13]
      show kB _ _ _ = _
      rw [h9, kB_p (nI_le (by omega) (by omega))]
    · rw [s_X12_isHeard_l8]
      show kB _ _ _ = _
      rw [e46, kB_p (nI_le (by omega) (by omega))]
  | j + 1, x, n + 1, 1, ST, S, SE, SM, _, _, hn, _, _, _ => by omega
  | j + 1, x, n + 1, n' + 2, ST, S, SE, SM, hx, hn1, hn2, hw, hT, hf => by
    have e46 : SM.1 46 = nI h := (hf.1 46 (by decide)).trans h46
    obtain ⟨o1, o2⟩ := rb_over hN hT
    have c9 : ¬ SN.1 9 ≤ nI x := by rw [h9]; exact nI_ge (by omega) (by omega)
    have c8 : ¬ (8 : Int32) ≤ nI x := nI_ge (b := 8) (by omega) (by omega)
    have c46 : ¬ SM.1 46 ≤ nI x := by rw [e46]; exact nI_ge (by omega) (by omega)
    by_cases c : rbHow S = 0 ∧ 0 < rbTu nT 7
    · rw [if_pos c] at o1 o2
      obtain ⟨r, ST1, S1, SE1, SM2, t1, t2, t3, t4, t5, t6, t7, t8, t9⟩ := rb_go (b := j) hN hT hp hw c.1 c.2
      have hf2 : rbFr SM1 SM2 := hf.tr t7
      have e47 : SM2.2.1 47 x = SN.2.1 5 x := by rw [hf2.2.1 47 (by decide), hs x (by omega)]
      by_cases d : r = SN.2.1 5 x
      · obtain ⟨r', ST', S', SE', SM', u0, u1, u2, u3, u4⟩ := rb_heard_l hN hp h9 h46 h8 hs j (x + 1) n (n' + 1) ST1 S1 SE1 SM2 (by omega) (by omega) (by omega) (by rw [t6.2.2]; exact hw) t4 hf2
        refine ⟨r', ST', S', SE', SM', u0, ?_, ?_, u3, t5.tr u4⟩
        · rw [s_X11_makesSo_l13]
          show kB _ _ _ = _
          rw [kB_n c9, kB_n c8, o1, kC_p, kB_10, t1, kD4_p, kO_p (nI_in (by omega) (by decide)), nI_clamp (by omega), kB_p d, kL_p, nI_1, u1]
        · rw [s_X12_isHeard_l8]
          show kB _ _ _ = _
          rw [kB_n c46, kB_10, o2, kC_p, kB_00, t2, kD_p, kO_p (nI_in (by omega) (by decide)), nI_clamp (by omega), e47, kB_p d, kL_p, nI_1, u2]
      · refine ⟨0, ST1, S1, SE1, SM2, Or.inl rfl, ?_, ?_, hf2, t5⟩
        · rw [s_X11_makesSo_l13]
          show kB _ _ _ = _
          rw [kB_n c9, kB_n c8, o1, kC_p, kB_10, t1, kD4_p, kO_p (nI_in (by omega) (by decide)), nI_clamp (by omega), kB_n d]
        · rw [s_X12_isHeard_l8]
          show kB _ _ _ = _
          rw [kB_n c46, kB_10, o2, kC_p, kB_00, t2, kD_p, kO_p (nI_in (by omega) (by decide)), nI_clamp (by omega), e47, kB_n d, kL_p, rb_heard0]
    · rw [if_neg c] at o1 o2
      refine ⟨0, ST, S, SE, SM, Or.inl rfl, ?_, ?_, hf, rbSE.rf⟩
      · rw [s_X11_makesSo_l13]
        show kB _ _ _ = _
        rw [kB_n c9, kB_n c8, o1, kC_p, kB_00]
      · rw [s_X12_isHeard_l8]
        show kB _ _ _ = _
        rw [kB_n c46, kB_10, o2, kC_p, kB_10, kL_p, rb_heard0]
theorem rb_so (hN : 101 ≤ N) (hn : rbNow SN SM SD SE nT nP L) (hp : p < nP) (hw : SN.2.2.1 p = some w) (ST : zTS) (S : zHS) : ∃ (r : Int32) (ST' : zTS) (S' : zHS) (SE' : List ((Nat → Nat) × zQS)) (C : zMS), f_X11_makesSo N SX SN SK ST S SR SV SG SY SZ SD SE (some w) = some (r, ST', S', SE') ∧ f_X12_isHeard N SM (nI p) = some (r, C) ∧ rbJ SM C ∧ rbSE SE SE' := by
  obtain ⟨ST1, S1, t1, t2, t3, t4, t5, t6, -, -⟩ := rb_tr hN hn ST S
  obtain ⟨SM1, s1, s2⟩ := rb_save hN SM
  obtain ⟨a, b, c, ⟨o, d1, d2, d3, d4⟩, e, f, g, -, h5, ⟨h, h8, h9, h46⟩, -⟩ := hn
  have hP := a.2.1.2.2
  obtain ⟨r, ST', S', SE', SM', u0, u1, u2, u3, u4⟩ := rb_heard_l (SX := SX) (SR := SR) (SK := SK) (SV := SV) (SG := SG) (SY := SY) (SZ := SZ) hN hp (w := w) h9 ((s2.1 46 (by decide)).trans h46) h8 (fun i hi => by rw [s2.2.1 47 (by decide)]; exact (h5 i hi).1) h 0 N N ST1 S1 SE SM1 (by omega) (by omega) (by omega) (by rw [t2.2.2.2.2.2.1 p (by omega)]; exact hw) ⟨s2.K (a.eq t2), s2.E (b.eq t2), c.eq t2, rb_pos0 t3 a.1.2.2 t4 (t5.trans d1) ((s2.1 7 (by decide)).trans d2) d3 d4 ((s2.1 34 (by decide)).trans g), rb_cp0 t6 ((s2.1 33 (by decide)).trans f) (by omega)⟩ rbFr.rf
  obtain ⟨C, c1, c2, -⟩ := rb_putBack hN s2 u3
  refine ⟨r, ST', S', SE', C, ?_, ?_, c2, u4⟩
  · unfold f_X11_makesSo
    rw [t1, kD_p]
    exact u1
  · unfold f_X12_isHeard
    rw [s1, kC_p]
    refine u2.trans ?_
    rw [c1, kC_p, kO_p u0]
theorem rb_who_l (hN : 101 ≤ N) : ∀ (j x n n' : Nat) (ST : zTS) (S : zHS) (SE : List ((Nat → Nat) × zQS)) (SM : zMS) (x1 : Int32), x + j = nP → j < n → j < n' → rbNow SN SM SD SE nT nP L → rbQ (f_X11_who_l4 N SX SN SK SR SV SG SY SZ SD n ST S SE x1 (nI x)) (f_X12_who_l4 N n' SM x1 (nI x)) SM SE
  | j, x, 0, n', ST, S, SE, SM, x1, _, h, _, _ => by omega
  | j, x, n + 1, 0, ST, S, SE, SM, x1, _, _, h, _ => by omega
  | 0, x, n + 1, n' + 1, ST, S, SE, SM, x1, hx, _, _, hn => by
    have hP := hn.1.2.1
    rw [s_X11_who_l4, s_X12_who_l4]
    show rbQ (kB _ _ _) (kB _ _ _) _ _
    rw [hP.1, hP.2.1, kB_p (nI_le (by omega) (by omega)), kB_p (nI_le (by omega) (by omega))]
    exact ⟨_, _, _, _, _, rfl, rfl, rbJ.rf, rbSE.rf⟩
  | j + 1, x, n + 1, n' + 1, ST, S, SE, SM, x1, hx, hn1, hn2, hn => by
    have hP := hn.1.2.1
    obtain ⟨w, e1, e2, e3⟩ := rb_per hn.1 (show x < nP by omega)
    obtain ⟨r, ST2, S2, SE2, C, u1, u2, u3, u4⟩ := rb_so (SX := SX) (SR := SR) (SK := SK) (SV := SV) (SG := SG) (SY := SY) (SZ := SZ) hN hn (show x < nP by omega) e1 ST S
    have hn' := hn.j u3 u4
    have ih := fun y => rb_who_l hN j (x + 1) n n' ST2 S2 SE2 C y (by omega) (by omega) (by omega) hn'
    rw [s_X11_who_l4, s_X12_who_l4]
    show rbQ (kB _ _ _) (kB _ _ _) _ _
    rw [hP.1, hP.2.1, kB_n (nI_ge (by omega) (by omega)), kB_n (nI_ge (by omega) (by omega)), e2, kC_p, u1, kD4_p, u2, kD_p]
    simp only [kL_p, nI_1, Int32.or_zero]
    by_cases c : r = 0
    · rw [kB_p c, kB_p c]
      obtain ⟨r', ST', S', SE', SM', q1, q2, q3, q4⟩ := ih x1
      exact ⟨r', ST', S', SE', SM', q1, q2, u3.tr q3, u4.tr q4⟩
    · rw [kB_n c, kB_n c]
      obtain ⟨r', ST', S', SE', SM', q1, q2, q3, q4⟩ := ih (x1 ||| (1 : Int32) <<< (nI x &&& 31))
      exact ⟨r', ST', S', SE', SM', q1, q2, u3.tr q3, u4.tr q4⟩
theorem rb_who (hN : 101 ≤ N) (hn : rbNow SN SM SD SE nT nP L) : rbQ (f_X11_who N SX SN SK ST S SR SV SG SY SZ SD SE) (f_X12_who N SM) SM SE := by
  have hP := hn.1.2.1.2.2
  unfold f_X11_who f_X12_who
  exact rb_who_l hN nP 0 N N ST S SE SM 0 (by omega) (by omega) (by omega) hn
/-! looked -/
theorem rb_look0 (N n' : Nat) (SM : zMS) {x : Int32} (hx : 0 ≤ x) (y : Int32) : f_X12_looked_l9 N (n' + 1) SM x y = kC (f_X12_putBack N SM) (fun C => some (x, C)) := by
  rw [s_X12_looked_l9]
  show kB _ _ _ = _
  by_cases c : SM.1 48 ≤ y
  · rw [kB_p c]
  · rw [kB_n c, kB_p hx]
theorem rb_look_l (hN : 101 ≤ N) (h10 : SN.1 10 = nI h) (h48 : SM1.1 48 = nI h) (h12 : h ≤ 12) (hpe : ∀ p : Nat, p < nP → ∃ w : Nat, SN.2.2.1 p = some w ∧ f_X1_person SN (nI p) = some (some w)) (hs : ∀ i : Nat, i < h → ∃ p : Nat, p < nP ∧ SN.2.1 6 i = nI p ∧ SM1.2.1 49 i = nI p) : ∀ (j x n n' : Nat) (ST : zTS) (S : zHS) (SE : List ((Nat → Nat) × zQS)) (SM : zMS), x + j = h → j < n → j + 1 < n' → (∀ p : Nat, p < nP → S.2.2.1 p = SN.2.2.1 p) → rbT S SM SD SE nT nP L 7 j ST → rbFr SM1 SM →
    ∃ (r : Int32) (ST' : zTS) (S' : zHS) (SE' : List ((Nat → Nat) × zQS)) (SM' : zMS), f_X11_looked_l13 N SX SN SK SR SV SG SY SZ SD n ST S SE (nI x) = some (r, ST', S', SE') ∧ f_X12_looked_l9 N n' SM (-5) (nI x) = kC (f_X12_putBack N SM') (fun C => some (r, C)) ∧ rbFr SM1 SM' ∧ rbSE SE SE'
  | j, x, 0, n', ST, S, SE, SM, _, hn, _, _, _, _ => by omega
  | j, x, n + 1, 0, ST, S, SE, SM, _, _, hn, _, _, _ => by omega
  | 0, x, n + 1, n' + 1, ST, S, SE, SM, hx, _, _, hw, hT, hf => by
    have e48 : SM.1 48 = nI h := (hf.1 48 (by decide)).trans h48
    refine ⟨-5, ST, S, SE, SM, ?_, ?_, hf, rbSE.rf⟩
    · rw [s_X11_looked_l13]
      show kB _ _ _ = _
      rw [h10, kB_p (nI_le (by omega) (by omega))]
    · rw [s_X12_looked_l9]
      show kB _ _ _ = _
      rw [e48, kB_p (nI_le (by omega) (by omega))]
  | j + 1, x, n + 1, 1, ST, S, SE, SM, _, _, hn, _, _, _ => by omega
  | j + 1, x, n + 1, n' + 2, ST, S, SE, SM, hx, hn1, hn2, hw, hT, hf => by
    have e48 : SM.1 48 = nI h := (hf.1 48 (by decide)).trans h48
    obtain ⟨o1, o2⟩ := rb_over hN hT
    have c9 : ¬ SN.1 10 ≤ nI x := by rw [h10]; exact nI_ge (by omega) (by omega)
    have c8 : ¬ (12 : Int32) ≤ nI x := nI_ge (b := 12) (by omega) (by omega)
    have c46 : ¬ SM.1 48 ≤ nI x := by rw [e48]; exact nI_ge (by omega) (by omega)
    have c5 : ¬ (0 : Int32) ≤ -5 := by decide
    by_cases c : rbHow S = 0 ∧ 0 < rbTu nT 7
    · rw [if_pos c] at o1 o2
      obtain ⟨p, hp, b1, b2⟩ := hs x (by omega)
      obtain ⟨w, w1, w2⟩ := hpe p hp
      obtain ⟨r, ST1, S1, SE1, SM2, t1, t2, t3, t4, t5, t6, t7, t8, t9⟩ := rb_go (b := j) hN hT hp ((hw p hp).trans w1) c.1 c.2
      have hf2 : rbFr SM1 SM2 := hf.tr t7
      have e49 : SM.2.1 49 x = nI p := by rw [hf.2.1 49 (by decide), b2]
      by_cases d : r = 0
      · refine ⟨nI x, ST1, S1, SE1, SM2, ?_, ?_, hf2, t5⟩
        · rw [s_X11_looked_l13]
          show kB _ _ _ = _
          rw [kB_n c9, kB_n c8, o1, kC_p, kB_10, kO_p (nI_in (by omega) (by decide)), nI_clamp (by omega), b1, w2, kC_p, t1, kD4_p, kB_p d]
        · rw [s_X12_looked_l9]
          show kB _ _ _ = _
          rw [kB_n c46, kB_n c5, o2, kC_p, kB_00, kO_p (nI_in (by omega) (by decide)), nI_clamp (by omega), e49, t2, kD_p, kB_p d, kL_p, rb_look0 N n' SM2 (nI_pos' (by omega))]
      · obtain ⟨r', ST', S', SE', SM', u1, u2, u3, u4⟩ := rb_look_l hN h10 h48 h12 hpe hs j (x + 1) n (n' + 1) ST1 S1 SE1 SM2 (by omega) (by omega) (by omega) (fun q hq => by rw [t6.2.2]; exact hw q hq) t4 hf2
        refine ⟨r', ST', S', SE', SM', ?_, ?_, u3, t5.tr u4⟩
        · rw [s_X11_looked_l13]
          show kB _ _ _ = _
          rw [kB_n c9, kB_n c8, o1, kC_p, kB_10, kO_p (nI_in (by omega) (by decide)), nI_clamp (by omega), b1, w2, kC_p, t1, kD4_p, kB_n d, kL_p, nI_1, u1]
        · rw [s_X12_looked_l9]
          show kB _ _ _ = _
          rw [kB_n c46, kB_n c5, o2, kC_p, kB_00, kO_p (nI_in (by omega) (by decide)), nI_clamp (by omega), e49, t2, kD_p, kB_n d, kL_p, nI_1, u2]
    · rw [if_neg c] at o1 o2
      refine ⟨nI x, ST, S, SE, SM, ?_, ?_, hf, rbSE.rf⟩
      · rw [s_X11_looked_l13]
        show kB _ _ _ = _
        rw [kB_n c9, kB_n c8, o1, kC_p, kB_00]
      · rw [s_X12_looked_l9]
        show kB _ _ _ = _
        rw [kB_n c46, kB_n c5, o2, kC_p, kB_10, kL_p, rb_look0 N n' SM (nI_pos' (by omega))]
theorem rb_looked (hN : 101 ≤ N) (hn : rbNow SN SM SD SE nT nP L) : rbQ (f_X11_looked N SX SN SK ST S SR SV SG SY SZ SD SE) (f_X12_looked N SM) SM SE := by
  obtain ⟨ST1, S1, t1, t2, t3, t4, t5, t6, -, -⟩ := rb_tr hN hn ST S
  obtain ⟨SM1, s1, s2⟩ := rb_save hN SM
  have hper : ∀ p : Nat, p < nP → ∃ w : Nat, SN.2.2.1 p = some w ∧ f_X1_person SN (nI p) = some (some w) := fun p hp => by
    obtain ⟨w, e1, e2, -⟩ := rb_per hn.1 hp
    exact ⟨w, e1, e2⟩
  obtain ⟨a, b, c, ⟨o, d1, d2, d3, d4⟩, e, f, g, -, -, -, ⟨h, h12, h10, h48, hs⟩, -⟩ := hn
  have hP := a.2.1.2.2
  obtain ⟨r, ST', S', SE', SM', u1, u2, u3, u4⟩ := rb_look_l (SX := SX) (SR := SR) (SK := SK) (SV := SV) (SG := SG) (SY := SY) (SZ := SZ) hN h10 ((s2.1 48 (by decide)).trans h48) h12 hper (fun i hi => by rw [s2.2.1 49 (by decide)]; exact hs i hi) h 0 N N ST1 S1 SE SM1 (by omega) (by omega) (by omega) (fun q hq => t2.2.2.2.2.2.1 q (by omega)) ⟨s2.K (a.eq t2), s2.E (b.eq t2), c.eq t2, rb_pos0 t3 a.1.2.2 t4 (t5.trans d1) ((s2.1 7 (by decide)).trans d2) d3 d4 ((s2.1 34 (by decide)).trans g), rb_cp0 t6 ((s2.1 33 (by decide)).trans f) (by omega)⟩ rbFr.rf
  obtain ⟨C, c1, c2, -⟩ := rb_putBack hN s2 u3
  refine ⟨r, ST', S', SE', C, ?_, ?_, c2, u4⟩
  · unfold f_X11_looked
    rw [t1, kD_p]
    exact u1
  · unfold f_X12_looked
    rw [s1, kC_p]
    refine u2.trans ?_
    rw [c1, kC_p]
end RBH
