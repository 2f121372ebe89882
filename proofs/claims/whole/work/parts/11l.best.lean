/-! B: what is best, on both sides -/
def rbQ {α : Type} (x : Option (α × zTS × zHS × List ((Nat → Nat) × zQS))) (y : Option (α × zMS)) (SM : zMS) (SE : List ((Nat → Nat) × zQS)) : Prop := ∃ (r : α) (ST' : zTS) (S' : zHS) (SE' : List ((Nat → Nat) × zQS)) (SM' : zMS), x = some (r, ST', S', SE') ∧ y = some (r, SM') ∧ rbJ SM SM' ∧ rbSE SE SE'
theorem mSI_u (S : zMS) (k : Nat) (v w : Int32) : mSI (mSI S k v) k w = mSI S k w := by
  unfold mSI
  rw [bx_uu]
theorem mSI_id {S : zMS} {k : Nat} {v : Int32} (h : S.1 k = v) : mSI S k v = S := by
  have : va_up S.1 k v = S.1 := by
    funext j
    unfold va_up
    split
    · rename_i e
      rw [e, h]
    · rfl
  unfold mSI
  rw [this]
theorem rbJ.mI {A B : zMS} {k : Nat} {v : Int32} (h : rbJ A B) : rbJ (mSI A k v) (mSI B k v) := by
  refine ⟨fun j hj => ?_, h.2.1, h.2.2.1, h.2.2.2⟩
  by_cases c : j = k
  · subst c; rw [mSI_s, mSI_s]
  · rw [mSI_o _ _ c, mSI_o _ _ c]; exact h.1 j hj
section RBQ
variable {N : Nat} {SN S : zHS} {SM X SM0 : zMS} {SD : List (Nat × zPS)} {SE : List ((Nat → Nat) × zQS)} {ST : zTS} {nT nP p w a : Nat} {L : List rbCl}
theorem rb_tr (hN : 101 ≤ N) (hn : rbNow SN SM SD SE nT nP L) (ST : zTS) (S : zHS) : ∃ (ST' : zTS) (S' : zHS), f_X10_start N ST S SN SD = some (ST', S') ∧ rbEq S' SN ∧ ST'.1 2 = nI nT ∧ (∀ i : Nat, i < nT → ST'.2 i = nI i) ∧ ST'.1 3 = SN.1 15 ∧ ST'.1 4 = 1000 ∧ ST'.1 5 = 0 ∧ ST'.1 6 = 0 :=
  rb_start hN hn.1.1.1 hn.1.1.2.2 (fun i hi => by rw [(hn.2.2.2.2.2.2.2.2.1 i hi).1]; exact (hn.2.2.2.2.2.2.2.2.1 i hi).2) hn.2.2.2.2.2.2.2.1 ST S
theorem rb_tq (hN : 101 ≤ N) (hk : rbK S X SD nT nP L) (he : rbE S X) (hc : rbCc S SE L) (pos : ∀ M : zMS, M.1 7 = X.1 7 → M.1 34 = X.1 34 → rbPos nT a ST M) (cp : rbCp 60 (ST.1 4) (X.1 33)) (hp : p < nP) (hw : S.2.2.1 p = some w) (hj : rbJ X SM0) :
    ∃ (r : Int32) (ST' : zTS) (S' : zHS) (SE' : List ((Nat → Nat) × zQS)) (SM2 : zMS), f_X10_sleepsAt N ST S SD SE (some w) (some w) = some (r, ST', S', SE') ∧ f_X12_sleepsBy N SM0 (nI p) = some (r, SM2) ∧ rbJ SM0 SM2 ∧ rbSE SE SE' ∧ rbVal r := by
  obtain ⟨SM1, s1, s2⟩ := rb_save hN SM0
  refine rb_sleeps hN hp hw s1 s2 (a := a) ⟨s2.K (hj.K hk), s2.E (hj.E he), hc, pos SM1 ?_ ?_, ?_⟩
  · rw [s2.1 7 (by decide)]; exact hj.1 7 (by decide)
  · rw [s2.1 34 (by decide)]; exact hj.1 34 (by decide)
  · rw [s2.1 33 (by decide), hj.1 33 (by decide)]; exact cp
theorem rb_cp0 {M : zMS} {ST : zTS} (h1 : ST.1 4 = 1000) (h2 : M.1 33 = -1) {b : Nat} (hb : b < 1000) : rbCp b (ST.1 4) (M.1 33) := Or.inl ⟨h2, 1000, h1, hb, Nat.le_refl _⟩
/-- a trial from how all is -/
theorem rb_tp (hN : 101 ≤ N) (hn : rbNow SN SM SD SE nT nP L) (hp : p < nP) (hw : SN.2.2.1 p = some w) (ST : zTS) (S : zHS) :
    ∃ (ST1 : zTS) (S1 : zHS) (r : Int32) (ST' : zTS) (S' : zHS) (SE' : List ((Nat → Nat) × zQS)) (SM2 : zMS), f_X10_start N ST S SN SD = some (ST1, S1) ∧ f_X10_sleepsAt N ST1 S1 SD SE (some w) (some w) = some (r, ST', S', SE') ∧ f_X12_sleepsBy N SM (nI p) = some (r, SM2) ∧ rbJ SM SM2 ∧ rbSE SE SE' ∧ rbVal r := by
  obtain ⟨ST1, S1, t1, t2, t3, t4, t5, t6, -, -⟩ := rb_tr hN hn ST S
  obtain ⟨a, b, c, ⟨o, d1, d2, d3, d4⟩, e, f, g, -⟩ := hn
  obtain ⟨r, ST', S', SE', SM2, q1, q2, q3, q4, q5⟩ := rb_tq (ST := ST1) (a := 7) hN (a.eq t2) (b.eq t2) (c.eq t2) (fun M m7 m34 => rb_pos0 t3 a.1.2.2 t4 (t5.trans d1) (m7.trans d2) d3 d4 (m34.trans g)) (rb_cp0 t6 f (by decide)) hp (by rw [t2.2.2.2.2.2.1 p (by have := a.2.1.2.2; omega)]; exact hw) rbJ.rf
  exact ⟨ST1, S1, r, ST', S', SE', SM2, t1, q1, q2, q3, q4, q5⟩
section RBX
variable {SX SR : zRS} {SK : zHS} {SV : Nat → Nat → Int64} {SG SY SZ : Nat → Int32}
theorem rb_with_l (hN : 101 ≤ N) : ∀ (j x n n' : Nat) (ST : zTS) (S : zHS) (SE : List ((Nat → Nat) × zQS)) (SM : zMS) (x1 x2 x3 : Int32), x + j = nP → j < n → j < n' → rbVal x3 → rbNow SN SM SD SE nT nP L → rbQ (f_X11_with_l20 N SX SN SK SR SV SG SY SZ SD n ST S SE x1 x2 x3 (nI x)) (f_X12_with_l21 N n' SM x1 x2 x3 (nI x)) SM SE
  | j, x, 0, n', ST, S, SE, SM, x1, x2, x3, _, h, _, _, _ => by omega
  | j, x, n + 1, 0, ST, S, SE, SM, x1, x2, x3, _, _, h, _, _ => by omega
  | 0, x, n + 1, n' + 1, ST, S, SE, SM, x1, x2, x3, hx, _, _, _, hn => by
    have hP := hn.1.2.1
    rw [s_X11_with_l20, s_X12_with_l21]
    show rbQ (kB _ _ _) (kB _ _ _) _ _
    rw [hP.1, hP.2.1, kB_p (nI_le (by omega) (by omega)), kB_p (nI_le (by omega) (by omega))]
    by_cases c : x1 = 0
    · rw [kB_p c, kB_p c]; exact ⟨_, _, _, _, _, rfl, rfl, rbJ.rf, rbSE.rf⟩
    · rw [kB_n c, kB_n c]; exact ⟨_, _, _, _, _, rfl, rfl, rbJ.rf, rbSE.rf⟩
  | j + 1, x, n + 1, n' + 1, ST, S, SE, SM, x1, x2, x3, hx, hn1, hn2, h3, hn => by
    have hP := hn.1.2.1
    rw [s_X11_with_l20, s_X12_with_l21]
    show rbQ (kB _ _ _) (kB _ _ _) _ _
    rw [hP.1, hP.2.1, kB_n (nI_ge (by omega) (by omega)), kB_n (nI_ge (by omega) (by omega))]
    rcases rb_pc hn.1 (nI x) with ⟨e1, e2⟩ | ⟨p, w, k, v, hp, ep, e1, e2, -⟩
    · obtain ⟨w, k, v, w1, -⟩ := hn.1.2.2.2.2.2.1 x (by omega)
      exfalso
      unfold f_X1_person at e1
      rw [kB_n (nI_pos (by omega)), hP.1, kB_n (nI_ge (by omega) (by omega)), kB_n (show ¬ (4 : Int32) ≤ nI x from nI_ge (b := 4) (by omega) (by decide)), kO_p (nI_in (by omega) (by decide)), nI_clamp (by omega), w1] at e1
      cases e1
    · have : p = x := ((nI_eq (by omega) (by omega)).mp ep).symm
      subst this
      obtain ⟨ST1, S1, r, ST2, S2, SE2, SM2, t1, t2, t3, t4, t5, t6⟩ := rb_tp hN hn hp e2 ST S
      obtain ⟨e, f1, f2, -⟩ := rb_earl t6 h3 (f_X12_with_l21 N n' SM2 x1 x2 x3 (nI (p + 1))) (f_X12_with_l21 N n' SM2 x1 (nI p) r (nI (p + 1)))
      rw [e1, kC_p, t1, kD_p, t2, kD4_p, f1, kC_p, t3, kD_p]
      simp only [kL_p, nI_1]
      rw [f2]
      have hn' := hn.j t4 t5
      by_cases c : e = 0
      · rw [kB_p c, kB_p c]
        obtain ⟨r', ST', S', SE', SM', q1, q2, q3, q4⟩ := rb_with_l hN j (p + 1) n n' ST2 S2 SE2 SM2 x1 x2 x3 (by omega) (by omega) (by omega) h3 hn'
        exact ⟨r', ST', S', SE', SM', q1, q2, t4.tr q3, t5.tr q4⟩
      · rw [kB_n c, kB_n c]
        obtain ⟨r', ST', S', SE', SM', q1, q2, q3, q4⟩ := rb_with_l hN j (p + 1) n n' ST2 S2 SE2 SM2 x1 (nI p) r (by omega) (by omega) (by omega) t6 hn'
        exact ⟨r', ST', S', SE', SM', q1, q2, t4.tr q3, t5.tr q4⟩
theorem rb_with (hN : 101 ≤ N) (hn : rbNow SN SM SD SE nT nP L) (x1 : Int32) : rbQ (f_X11_with N SX SN SK ST S SR SV SG SY SZ SD SE x1) (f_X12_with N SM x1) SM SE := by
  unfold f_X11_with f_X12_with
  by_cases c : x1 < 0
  · rw [kB_p c, rb_in0 (Or.inl c), kC_p, kB_00]; exact ⟨_, _, _, _, _, rfl, rfl, rbJ.rf, rbSE.rf⟩
  · rw [kB_n c]
    by_cases d : x1 ≤ 1
    · rw [kB_p d, rb_in1 c d, kC_p, kB_10]
      exact rb_with_l hN nP 0 N N ST S SE SM x1 (-5) (-5) (by omega) (by have := hn.1.2.1.2.2; omega) (by have := hn.1.2.1.2.2; omega) (Or.inl rfl) hn
    · rw [kB_n d, rb_in0 (Or.inr d), kC_p, kB_00]; exact ⟨_, _, _, _, _, rfl, rfl, rbJ.rf, rbSE.rf⟩
theorem rb_both (hN : 101 ≤ N) (hn : rbNow SN SM SD SE nT nP L) (x1 x2 : Int32) : rbQ (f_X11_both N SX SN SK ST S SR SV SG SY SZ SD SE x1 x2) (f_X12_both N SM x1 x2) SM SE := by
  unfold f_X11_both f_X12_both
  have base : rbQ (some ((-1 : Int32), ST, S, SE)) (some ((-1 : Int32), SM)) SM SE := ⟨_, _, _, _, _, rfl, rfl, rbJ.rf, rbSE.rf⟩
  rcases rb_pc hn.1 x1 with ⟨e1, e2⟩ | ⟨p, w, k, v, hp, rfl, e1, e3, -, -, -, -, -, e2⟩
  · rcases rb_pc hn.1 x2 with ⟨g1, g2⟩ | ⟨p2, w2, k2, v2, hp2, rfl, g1, g3, -, -, -, -, -, g2⟩
    · rw [e1, kC_p, g1, kC_p, kN_p0, e2, kC_p, kB_00]; exact base
    · rw [e1, kC_p, g1, kC_p, kN_p0, e2, kC_p, kB_00]; exact base
  · rcases rb_pc hn.1 x2 with ⟨g1, g2⟩ | ⟨p2, w2, k2, v2, hp2, rfl, g1, g3, -, -, -, -, -, g2⟩
    · rw [e1, kC_p, g1, kC_p, kN_p1, kN_p0, e2, kC_p, kB_10, g2, kC_p, kB_00]; exact base
    · obtain ⟨ST1, S1, t1, t2, t3, t4, t5, t6, -, -⟩ := rb_tr hN hn ST S
      obtain ⟨SM1, s1, s2⟩ := rb_save hN SM
      obtain ⟨a, b, c, ⟨o, d1, d2, d3, d4⟩, e, f, g, -⟩ := hn
      have hP := a.2.1.2.2
      have hT : rbT S1 SM1 SD SE nT nP L 7 (0 + 60) ST1 := ⟨s2.K (a.eq t2), s2.E (b.eq t2), c.eq t2, rb_pos0 t3 a.1.2.2 t4 (t5.trans d1) ((s2.1 7 (by decide)).trans d2) d3 d4 ((s2.1 34 (by decide)).trans g), rb_cp0 t6 ((s2.1 33 (by decide)).trans f) (by decide)⟩
      obtain ⟨ST', S', SE', SM', r1, r2, r4, ⟨q1, q2, q3, q4⟩⟩ := rb_run2 (a := 7) hN hp hp2 (w := w) (w2 := w2) 60 0 N N 0 ST1 S1 SE SM1 (by omega) (by omega) (by omega) (by rw [t2.2.2.2.2.2.1 p (by omega)]; exact e3) (by rw [t2.2.2.2.2.2.1 p2 (by omega)]; exact g3) hT
      obtain ⟨w1, w2⟩ := rb_how hN r4.1 r4.2.1
      obtain ⟨C, c1, c2, -⟩ := rb_putBack hN s2 q3
      rw [e1, kC_p, g1, kC_p, kN_p1, kN_p1, t1, kD_p, e2, kC_p, kB_10, g2, kC_p, kB_10, s1, kC_p]
      unfold f_X10_sleepsAt f_X10_run
      have r1' : f_X10_run_l3 N SD N ST1 S1 SE (some w) (some _) 60 0 = some (ST', S', SE') := r1
      have r2' : f_X12_both_l24 N N SM1 (nI p) (nI p2) 0 = f_X12_both_b60 N SM' := r2
      rw [r1', kD3_p, w1, kC_p, r2']
      unfold f_X12_both_b60
      rw [w2, kC_p, c1]
      by_cases c : rbHow S' = 1
      · rw [kB_p c, kB_p c, kC_p, kD4_p, r4.2.1.1]
        exact ⟨_, _, _, _, _, rfl, rfl, c2, q1⟩
      · rw [kB_n c, kB_n c, kC_p, kD4_p]
        exact ⟨_, _, _, _, _, rfl, rfl, c2, q1⟩
end RBX
end RBQ
