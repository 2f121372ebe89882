/-! B: one turn of a trial on both sides -/
theorem tSI_s (S : zTS) (k : Nat) (v : Int32) : (tSI S k v).1 k = v := va_up_self _ _ _
theorem tSI_o (S : zTS) {k j : Nat} (v : Int32) (h : j ≠ k) : (tSI S k v).1 j = S.1 j := va_up_ne _ _ h
theorem tSI_2 (S : zTS) (k : Nat) (v : Int32) : (tSI S k v).2 = S.2 := rfl
def rbCp (b : Nat) (x y : Int32) : Prop := (y = -1 ∧ ∃ c : Nat, x = nI c ∧ b < c ∧ c ≤ 1000) ∨ ∃ c : Nat, y = nI c ∧ x = nI c ∧ c ≤ 20
section RBS
variable {N : Nat} {S : zHS} {SM : zMS} {SD : List (Nat × zPS)} {SE : List ((Nat → Nat) × zQS)} {ST : zTS} {nT nP p t pl tu b a : Nat} {L : List rbCl}
theorem rb_cl0 (hh : rbHow S = 0) : S.1 11 < S.1 18 := by
  unfold rbHow at hh
  split at hh
  · split at hh
    · assumption
    · exact absurd hh (by decide)
  · exact absurd hh (by decide)
theorem rb_hw (h : rbK S SM SD nT nP L) (he : rbE S SM) : f_X1_how S = some (rbHow S) := (rb_how (N := 101) (Nat.le_refl _) h he).1
theorem rb_goes (h : rbK S SM SD nT nP L) (he : rbE S SM) (h3 : ST.1 3 = nI pl) (h2 : ST.1 2 = nI tu) (hl : pl < tu) (ht : tu ≤ 7) : f_X10_goesOn ST S = some (if rbHow S = 0 then 1 else 0) := by
  unfold f_X10_goesOn
  rw [h3, h2, kB_n (nI_pos (by omega)), kB_n (nI_ge hl (by omega)), kB_n (show ¬ (7 : Int32) < nI tu from nI_nlt (a := 7) ht (by decide)), rb_hw h he, kC_p]
  by_cases c : rbHow S = 0
  · rw [kB_p c, if_pos c]
  · rw [kB_n c, if_neg c]
theorem rb_nogo (h3 : ST.1 3 = nI pl) (h2 : ST.1 2 = nI 0) (hl : pl ≤ 7) : f_X10_goesOn ST S = some 0 := by
  unfold f_X10_goesOn
  rw [h3, h2, kB_n (nI_pos (by omega)), kB_p (nI_le (by omega) (by omega))]
theorem rb_stepX {x : Nat} {r : Int32} {S' : zHS} {SE' : List ((Nat → Nat) × zQS)} {w : Nat} (hr : r = 0 ∨ r = 1) (hp : f_X1_pass N S SD SE (some w) (nI t) r = some (S', SE')) (h7 : S'.1 7 = nI nT) (hT : nT ≤ 7) (ht : t < nT) (h3 : ST.1 3 = nI pl) (h2 : ST.1 2 = nI tu) (hl : pl < tu) (hu : tu ≤ 7) :
    ∃ ST' : zTS, f_X10_step_b47 N SD ST S SE w (nI t) r = some (r, ST', S', SE') ∧ ST'.2 = ST.2 ∧ ST'.1 2 = ST.1 2 ∧ ST'.1 3 = nI (if pl + 1 < tu then pl + 1 else 0) ∧ ST'.1 5 = ST.1 5 + 1 ∧ ST'.1 4 = (if r = 0 then ST.1 4 else ST.1 4 - 1) ∧ ST'.1 6 = (if r = 0 then ST.1 6 else ST.1 6 + S'.2.1 0 t) := by
  unfold f_X10_step_b47
  rw [hp, kD_p]
  simp only [kL_p]
  have hb : ∀ y : Int32, ∃ ST' : zTS, f_X10_step_b82 N SD ST S' SE' (nI t) r y = some (r, ST', S', SE') ∧ ST'.2 = ST.2 ∧ ST'.1 2 = ST.1 2 ∧ ST'.1 3 = y ∧ ST'.1 5 = ST.1 5 + 1 ∧ ST'.1 4 = (if r = 0 then ST.1 4 else ST.1 4 - 1) ∧ ST'.1 6 = (if r = 0 then ST.1 6 else ST.1 6 + S'.2.1 0 t) := by
    intro y
    unfold f_X10_step_b82
    simp only [kL_p]
    rcases hr with rfl | rfl
    · rw [kB_00, kO_p (by decide)]
      exact ⟨_, rfl, rfl, rfl, rfl, rfl, rfl, rfl⟩
    · rw [kB_10, rb_has h7 hT ht, kC_p, kB_10, kO_p (nI_in (by omega) (by decide)), kO_p (by decide), nI_clamp (by omega)]
      exact ⟨_, rfl, rfl, rfl, rfl, rfl, rfl, rfl⟩
  rw [h3, h2, nI_1]
  by_cases c : pl + 1 < tu
  · rw [kB_n (nI_ge c (by omega)), if_pos c]
    have := hb (nI (pl + 1))
    rw [h2] at this
    exact this
  · rw [kB_p (nI_le (by omega) (by omega)), if_neg c]
    have := hb 0
    rw [h2] at this
    exact this
theorem rb_step (hN : 101 ≤ N) (h : rbK S SM SD nT nP L) (he : rbE S SM) (hc : rbCc S SE L) (hp : p < nP) (ht : t < nT) {w : Nat} (hw : S.2.2.1 p = some w) (hh : rbHow S = 0) (h3 : ST.1 3 = nI pl) (h2 : ST.1 2 = nI tu) (hl : pl < tu) (hu : tu ≤ 7) (h4 : ST.2 pl = nI t) (hcp : rbCp (b + 1) (ST.1 4) (SM.1 33)) :
    ∃ (r : Int32) (ST' : zTS) (S' : zHS) (SE' : List ((Nat → Nat) × zQS)) (SM' : zMS), f_X10_step N ST S SD SE (some w) = some (r, ST', S', SE') ∧ f_X12_asks N SM (nI p) (nI t) = some (r, SM') ∧ (r = 0 ∨ r = 1) ∧ rbAsk S SM SE t r S' SE' SM' ∧ ST'.2 = ST.2 ∧ ST'.1 2 = ST.1 2 ∧ ST'.1 3 = nI (if pl + 1 < tu then pl + 1 else 0) ∧ ST'.1 5 = ST.1 5 + 1 ∧ rbCp b (ST'.1 4) (SM'.1 33) ∧ ∃ d : Nat, d ≤ 20 ∧ ST'.1 6 = ST.1 6 + nI d ∧ SM'.1 35 = SM.1 35 + nI d := by
  obtain ⟨w', pv, g, g1, g2, g3, g4, g5, g6⟩ := rb_grants hN h he hp ht
  rw [hw] at g1
  cases g1
  have hT := h.1.2.2
  have hcl := rb_cl0 hh
  -- the answer
  have key : ∀ r : Int32, (g = 0 ∨ SM.1 33 = 0) ∧ r = 0 ∨ ¬ g = 0 ∧ ¬ SM.1 33 = 0 ∧ r = 1 → f_X10_step N ST S SD SE (some w) = f_X10_step_b47 N SD ST S SE w (nI t) r →
      ∃ (r : Int32) (ST' : zTS) (S' : zHS) (SE' : List ((Nat → Nat) × zQS)) (SM' : zMS), f_X10_step N ST S SD SE (some w) = some (r, ST', S', SE') ∧ f_X12_asks N SM (nI p) (nI t) = some (r, SM') ∧ (r = 0 ∨ r = 1) ∧ rbAsk S SM SE t r S' SE' SM' ∧ ST'.2 = ST.2 ∧ ST'.1 2 = ST.1 2 ∧ ST'.1 3 = nI (if pl + 1 < tu then pl + 1 else 0) ∧ ST'.1 5 = ST.1 5 + 1 ∧ rbCp b (ST'.1 4) (SM'.1 33) ∧ ∃ d : Nat, d ≤ 20 ∧ ST'.1 6 = ST.1 6 + nI d ∧ SM'.1 35 = SM.1 35 + nI d := by
    intro r hr e
    have hr2 : r = 0 ∨ r = 1 := by rcases hr with ⟨-, q⟩ | ⟨-, -, q⟩ <;> simp [q]
    obtain ⟨S', SE', SM', q1, q2, q3⟩ := rb_ask hN h he hc hp ht hw hcl g6 hr
    have q3' := q3
    obtain ⟨-, -, f1, f2, -, -, -, f3, f4⟩ := q3
    obtain ⟨ST', s1, s2, s3, s4, s5, s6, s7⟩ := rb_stepX (x := 0) (SD := SD) hr2 q1 ((f1.1 7 (by decide)).trans h.1.1) hT ht h3 h2 hl hu
    refine ⟨r, ST', S', SE', SM', e.trans s1, q2, hr2, q3', s2, s3, s4, s5, ?_, ?_⟩
    · rw [s6, f3]
      rcases hr with ⟨hz, rfl⟩ | ⟨hg0, h33, rfl⟩
      · rw [if_pos rfl, if_pos rfl]
        rcases hcp with ⟨c1, c, c2, c3, c4⟩ | c
        · exact Or.inl ⟨c1, c, c2, by omega, c4⟩
        · exact Or.inr c
      · rw [if_neg (by decide), if_neg (by decide)]
        rcases hcp with ⟨c1, c, c2, c3, c4⟩ | ⟨c, c1, c2, c3⟩
        · refine Or.inl ⟨?_, c - 1, ?_, by omega, by omega⟩
          · rw [c1, if_pos (by decide)]
          · rw [c2]
            obtain ⟨c', rfl⟩ : ∃ c', c = c' + 1 := ⟨c - 1, by omega⟩
            rw [nI_pred]
            rfl
        · have hc0 : c ≠ 0 := by
            intro q
            subst q
            exact h33 c1
          obtain ⟨c', rfl⟩ : ∃ c', c = c' + 1 := ⟨c - 1, by omega⟩
          refine Or.inr ⟨c', ?_, ?_, by omega⟩
          · rw [c1, if_neg (nI_nle (by omega) (by omega)), nI_pred]
          · rw [c2, nI_pred]
    · rw [s7, f4]
      rcases hr2 with rfl | rfl
      · exact ⟨0, by omega, by rw [if_pos rfl]; exact (Int32.add_zero _).symm, by rw [if_pos rfl]; exact (Int32.add_zero _).symm⟩
      · obtain ⟨m, -, m2, m3⟩ := h.2.2.2.1 t ht
        refine ⟨m, m2, ?_, by rw [if_neg (by decide), m3]⟩
        rw [if_neg (by decide), f1.2.1 0 (by decide), (h.2.2.1 t (by omega)).1, m3]
  have e0 : f_X10_step N ST S SD SE (some w) = kB ((ST.1 4) ≤ 0) (f_X10_step_b47 N SD ST S SE w (nI t) 0) (kB (g = 0) (f_X10_step_b47 N SD ST S SE w (nI t) 0) (f_X10_step_b47 N SD ST S SE w (nI t) 1)) := by
    unfold f_X10_step f_X10_step_b46
    rw [kN_p1, rb_goes h he h3 h2 hl hu, kC_p, if_pos hh, kB_10, h3, kO_p (nI_in (by omega) (by decide)), nI_clamp (by omega), h4, g2, kC_p, g5, kC_p]
  rcases hcp with ⟨c1, c, c2, c3, c4⟩ | ⟨c, c1, c2, c3⟩
  · have h33 : ¬ SM.1 33 = 0 := by rw [c1]; decide
    rw [c2, kB_n (nI_nle (by omega) (by omega))] at e0
    by_cases hg : g = 0
    · rw [kB_p hg] at e0
      exact key 0 (Or.inl ⟨Or.inl hg, rfl⟩) e0
    · rw [kB_n hg] at e0
      exact key 1 (Or.inr ⟨hg, h33, rfl⟩) e0
  · by_cases hc0 : c = 0
    · subst hc0
      rw [c2, kB_p (by decide)] at e0
      exact key 0 (Or.inl ⟨Or.inr c1, rfl⟩) e0
    · have h33 : ¬ SM.1 33 = 0 := by rw [c1]; exact nI_ne0 (by omega) (by omega)
      rw [c2, kB_n (nI_nle (by omega) (by omega))] at e0
      by_cases hg : g = 0
      · rw [kB_p hg] at e0
        exact key 0 (Or.inl ⟨Or.inl hg, rfl⟩) e0
      · rw [kB_n hg] at e0
        exact key 1 (Or.inr ⟨hg, h33, rfl⟩) e0
def rbTu (nT a : Nat) : Nat := if a < nT then nT - 1 else nT
def rbAt2 (a i : Nat) : Nat := if i < a then i else i + 1
def rbNx (nT o : Nat) : Nat := if o + 1 < nT then o + 1 else 0
def rbPos (nT a : Nat) (ST : zTS) (SM : zMS) : Prop := (a < nT ∧ SM.1 34 = nI a ∨ nT ≤ a ∧ SM.1 34 = -1) ∧ ST.1 2 = nI (rbTu nT a) ∧ (∀ i : Nat, i < rbTu nT a → ST.2 i = nI (rbAt2 a i)) ∧ ∃ o q : Nat, SM.1 7 = nI o ∧ ST.1 3 = nI q ∧ (o < nT ∨ nT = 0) ∧ o ≤ 7 ∧ q ≤ 7 ∧ (0 < rbTu nT a → q < rbTu nT a ∧ rbAt2 a q = if o = a then rbNx nT o else o)
def rbT (S : zHS) (SM : zMS) (SD : List (Nat × zPS)) (SE : List ((Nat → Nat) × zQS)) (nT nP : Nat) (L : List rbCl) (a b : Nat) (ST : zTS) : Prop := rbK S SM SD nT nP L ∧ rbE S SM ∧ rbCc S SE L ∧ rbPos nT a ST SM ∧ rbCp b (ST.1 4) (SM.1 33)
theorem rb_over (hN : 101 ≤ N) (h : rbT S SM SD SE nT nP L a b ST) : f_X10_goesOn ST S = some (if rbHow S = 0 ∧ 0 < rbTu nT a then 1 else 0) ∧ f_X12_isOver N SM = some (if rbHow S = 0 ∧ 0 < rbTu nT a then 0 else 1) := by
  obtain ⟨hk, he, hc, ⟨p1, p2, p3, o, q, p4, p5, p6, p7, p8, p9⟩, hcp⟩ := h
  have hT := hk.1.2.2
  constructor
  · by_cases c : 0 < rbTu nT a
    · obtain ⟨r1, r2⟩ := p9 c
      rw [rb_goes hk he p5 p2 r1 (by unfold rbTu at *; split <;> omega)]
      by_cases c2 : rbHow S = 0
      · rw [if_pos c2, if_pos ⟨c2, c⟩]
      · rw [if_neg c2, if_neg (fun q => c2 q.1)]
    · rw [if_neg (fun q => c q.2)]
      have c0 : rbTu nT a = 0 := by omega
      rw [c0] at p2
      exact rb_nogo p5 p2 p8
  · unfold f_X12_isOver
    rw [(rb_how hN hk he).2, kC_p, hk.1.2.1]
    by_cases c2 : rbHow S = 0
    · rw [kB_p c2]
      by_cases c3 : nT = 0
      · subst c3
        rw [kB_p (by decide), if_neg]
        rintro ⟨-, q⟩
        unfold rbTu at q
        split at q <;> omega
      · rw [kB_n (nI_ne0 (by omega) (by omega))]
        rcases p1 with ⟨a1, a2⟩ | ⟨a1, a2⟩
        · rw [a2, kB_n (nI_pos (by omega))]
          by_cases c4 : nT = 1
          · subst c4
            rw [kB_p (by decide), if_neg]
            rintro ⟨-, q⟩
            unfold rbTu at q
            rw [if_pos a1] at q
            omega
          · rw [kB_n (show ¬ nI nT = (1 : Int32) from fun e => c4 ((nI_eq (b := 1) (by omega) (by decide)).mp e)), if_pos]
            refine ⟨c2, ?_⟩
            unfold rbTu
            rw [if_pos a1]
            omega
        · rw [a2, kB_p (by decide), if_pos]
          refine ⟨c2, ?_⟩
          unfold rbTu
          rw [if_neg (by omega)]
          omega
    · rw [kB_n c2, if_neg (fun q => c2 q.1)]
theorem rb_nx (h0 : SM.1 0 = nI nT) (hT : nT ≤ 7) {o : Nat} (ho : o ≤ 7) : f_X12_nextOf SM (nI o) = some (nI (rbNx nT o)) := by
  unfold f_X12_nextOf rbNx
  rw [nI_1, h0]
  simp only [kL_p]
  by_cases c : o + 1 < nT
  · rw [kB_n (nI_ge c (by omega)), if_pos c]
  · rw [kB_p (nI_le (by omega) (by omega)), if_neg c]
    rfl
theorem rb_go (hN : 101 ≤ N) (h : rbT S SM SD SE nT nP L a (b + 1) ST) (hp : p < nP) {w : Nat} (hw : S.2.2.1 p = some w) (hh : rbHow S = 0) (hu : 0 < rbTu nT a) :
    ∃ (r : Int32) (ST' : zTS) (S' : zHS) (SE' : List ((Nat → Nat) × zQS)) (SM' : zMS), f_X10_step N ST S SD SE (some w) = some (r, ST', S', SE') ∧ f_X12_goAsk N SM (nI p) = some (r, SM') ∧ (r = 0 ∨ r = 1) ∧ rbT S' SM' SD SE' nT nP L a b ST' ∧ rbSE SE SE' ∧ rbFh S S' ∧ rbFr SM SM' ∧ ST'.1 5 = ST.1 5 + 1 ∧ SM'.1 2 = SM.1 2 := by
  obtain ⟨hk, he, hc, ⟨p1, p2, p3, o, q, p4, p5, p6, p7, p8, p9⟩, hcp⟩ := h
  have hT := hk.1.2.2
  obtain ⟨r1, r2⟩ := p9 hu
  have hnT : nT ≠ 0 := by intro e; subst e; unfold rbTu at hu; split at hu <;> omega
  have hoT : o < nT := by omega
  have htu : rbTu nT a ≤ nT := by unfold rbTu; split <;> omega
  have hq1 : rbAt2 a q < nT := by
    unfold rbAt2 rbTu at *
    split <;> split at r1 <;> omega
  -- the state from which it is asked
  obtain ⟨SM1, m1, m2, m3, m4⟩ : ∃ SM1 : zMS, f_X12_goAsk N SM (nI p) = f_X12_goAsk_b23 N SM1 (nI p) ∧ SM1.1 7 = nI (rbAt2 a q) ∧ (∀ k : Nat, k ≠ 7 → SM1.1 k = SM.1 k) ∧ SM1.2 = SM.2 := by
    unfold f_X12_goAsk
    by_cases c : o = a
    · have e34 : SM.1 7 = SM.1 34 := by
        rcases p1 with ⟨a1, a2⟩ | ⟨a1, a2⟩
        · rw [p4, a2, c]
        · omega
      rw [kB_p e34, p4, rb_nx hk.1.2.1 hT p7, kC_p, kL_p]
      refine ⟨_, rfl, ?_, fun k hk => mSI_o _ _ hk, rfl⟩
      rw [mSI_s, r2, if_pos c]
    · have e34 : ¬ SM.1 7 = SM.1 34 := by
        rcases p1 with ⟨a1, a2⟩ | ⟨a1, a2⟩
        · rw [p4, a2]
          exact fun e => c ((nI_eq (by omega) (by omega)).mp e)
        · rw [p4, a2]
          intro e
          have := nI_pos (n := o) (by omega)
          rw [e] at this
          exact this (by decide)
      rw [kB_n e34]
      refine ⟨SM, rfl, ?_, fun _ _ => rfl, rfl⟩
      rw [p4, r2, if_neg c]
  have hfr : rbFr SM SM1 := ⟨fun k hk => m3 k (by intro e; subst e; exact hk (by decide)), fun k _ => by rw [m4], by rw [m4]⟩
  have hk1 : rbK S SM1 SD nT nP L := hk.fr rbFh.rf hfr
  have he1 : rbE S SM1 := by
    obtain ⟨e1, e2, e3, e4, e5, e6, e7, e8⟩ := he
    refine ⟨?_, ?_, ?_, ?_, ?_, ?_, ?_, ?_⟩
    · rw [m3 3 (by decide)]; exact e1
    · rw [m3 3 (by decide)]; exact e2
    · rw [m3 4 (by decide)]; exact e3
    · rw [m3 5 (by decide)]; exact e4
    · rw [m3 6 (by decide)]; exact e5
    · rw [m3 2 (by decide)]; exact e6
    · rw [m3 2 (by decide)]; exact e7
    · rw [m4]; exact e8
  obtain ⟨r, ST', S', SE', SM', t1, t2, t3, t4, t5, t6, t7, t8, t9, -⟩ := rb_step (b := b) hN hk1 he1 hc hp hq1 hw hh p5 p2 r1 (by omega) (p3 q r1) (by rw [m3 33 (by decide)]; exact hcp)
  obtain ⟨s1, s2, s3, s4, s5, s6, s7, s8, s9⟩ := t4
  have h0' : SM'.1 0 = nI nT := (s4.1 0 (by decide)).trans hk1.1.2.1
  refine ⟨r, ST', S', SE', mSI SM' 7 (nI (rbNx nT (rbAt2 a q))), t1, ?_, t3, ⟨?_, ?_, ?_, ?_, ?_⟩, s1, s3, ?_, t8, ?_⟩
  · rw [m1]
    unfold f_X12_goAsk_b23
    rw [m2, t2, kD_p, s6, m2, rb_nx h0' hT (by omega), kC_p, kL_p, kO_p t3]
  · exact hk1.fr s3 (s4.I (by decide))
  · exact s2
  · exact hc.e (by rw [s3.2.2]) s1
  · refine ⟨?_, by rw [t6]; exact p2, by rw [t5]; exact p3, rbNx nT (rbAt2 a q), _, mSI_s _ _ _, t7, ?_, ?_, ?_, ?_⟩
    · rw [mSI_o _ _ (by decide), s4.1 34 (by decide), m3 34 (by decide)]
      exact p1
    · left
      unfold rbNx
      split <;> omega
    · unfold rbNx
      split <;> omega
    · split <;> omega
    · intro _
      have ha := p1
      unfold rbNx rbAt2 rbTu at *
      rcases p1 with ⟨a1, a2⟩ | ⟨a1, a2⟩
      · rw [if_pos a1] at *
        repeat' split
        all_goals omega
      · rw [if_neg (show ¬ a < nT by omega)] at *
        repeat' split
        all_goals omega
  · rw [mSI_o _ _ (by decide)]
    exact t9
  · exact hfr.tr (s4.I (by decide))
  · rw [mSI_o _ _ (by decide), s7, m3 2 (by decide)]
end RBS
