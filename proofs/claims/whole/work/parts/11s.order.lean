/-! B: order -/
section RBZ
variable {N : Nat} {SN S : zHS} {SM SB SM1 : zMS} {SD : List (Nat × zPS)} {SE : List ((Nat → Nat) × zQS)} {ST : zTS} {nT nP p w : Nat} {L : List rbCl} {SX SR : zRS} {SK : zHS} {SV : Nat → Nat → Int64} {SG SY SZ : Nat → Int32} {g : Nat → Nat}
theorem rb_afresh (hN : 101 ≤ N) (S : zHS) (h2 : ST.1 2 = nI nT) (h5 : nT ≤ 5) (SY : Nat → Int32) : ∃ ST' : zTS, f_X10_afresh N ST S SY = some (ST', hSI (hSI (hSI (hSI S 11 0) 12 0) 13 0) 14 0) ∧ ST'.1 2 = nI nT ∧ (∀ i : Nat, i < nT → ST'.2 i = SY i) ∧ ST'.1 3 = 0 ∧ ST'.1 4 = ST.1 4 ∧ ST'.1 6 = ST.1 6 := by
  have lp : ∀ (j x n : Nat) (ST : zTS), x + j = nT → j < n → ST.1 2 = nI nT → (∀ i : Nat, i < x → ST.2 i = SY i) → ∃ ST' : zTS, f_X10_afresh_l2 N SY n ST S (nI x) = some (ST', hSI (hSI (hSI (hSI S 11 0) 12 0) 13 0) 14 0) ∧ ST'.1 2 = nI nT ∧ (∀ i : Nat, i < nT → ST'.2 i = SY i) ∧ ST'.1 3 = 0 ∧ ST'.1 4 = ST.1 4 ∧ ST'.1 6 = ST.1 6 := by
    intro j
    induction j with
    | zero =>
      intro x n ST hx hn h2 hi
      cases n with
      | zero => omega
      | succ n =>
        have hx : x = nT := by omega
        subst hx
        rw [s_X10_afresh_l2]
        show ∃ ST', kB _ _ _ = _ ∧ _
        rw [h2, kB_p (nI_le (by omega) (by omega))]
        exact ⟨_, rfl, h2, hi, rfl, rfl, rfl⟩
    | succ j ih =>
      intro x n ST hx hn h2 hi
      cases n with
      | zero => omega
      | succ n =>
        obtain ⟨ST', i1, i2, i3, i4, i5, i6⟩ := ih (x + 1) n (tSA ST (upd ST.2 x (SY x))) (by omega) (by omega) h2 (by
          intro i hi2
          show upd ST.2 x (SY x) i = _
          by_cases c : i = x
          · subst c; rw [pk_us]
          · rw [pk_un c]; exact hi i (by omega))
        rw [s_X10_afresh_l2]
        show ∃ ST', kB _ _ _ = _ ∧ _
        rw [h2, kB_n (nI_ge (by omega) (by omega)), kB_n (show ¬ (Int32.ofNat 5) ≤ nI x from nI_ge (b := 5) (by omega) (by decide)), kO_p (nI_in (by omega) (by decide)), kO_p (nI_in (by omega) (by decide)), nI_clamp (by omega), kL_p, kL_p, nI_1]
        exact ⟨ST', i1, i2, i3, i4, i5, i6⟩
  exact lp nT 0 N ST (by omega) (by omega) h2 (fun i hi => by omega)
/-- one row tried -/
theorem rb_spent (hN : 101 ≤ N) (hn : rbNow SN SB SD SE nT nP L) (h5 : nT ≤ 5) (hp : p < nP) (hw : SN.2.2.1 p = some w) (hg : ∀ i : Nat, i < nT → g i < nT) {SM0 : zMS} (hj : rbJ SB SM0) (h44 : ∀ i : Nat, i < nT → SM0.2.1 44 i = nI (g i)) (hy : ∀ i : Nat, i < nT → SY i = nI (g i)) (ST : zTS) (S : zHS) :
    ∃ (ST1 ST2 ST3 : zTS) (S1 S2 S3 : zHS) (SE3 : List ((Nat → Nat) × zQS)) (C : zMS), f_X10_start N ST S SN SD = some (ST1, S1) ∧ f_X10_afresh N ST1 S1 SY = some (ST2, S2) ∧ f_X10_run N ST2 S2 SD SE (some w) (some w) 60 = some (ST3, S3, SE3) ∧ f_X12_spentAsOrdered N SM0 (nI p) = some (ST3.1 6, C) ∧ rbJ SB C ∧ C.2.1 45 = SM0.2.1 45 ∧ C.2.1 44 = SM0.2.1 44 ∧ rbSE SE SE3 ∧ ∃ q : Nat, q < 2 ^ 20 ∧ ST3.1 6 = nI q := by
  obtain ⟨ST1, S1, t1, t2, t3, t4, t5, t6, -, t8⟩ := rb_tr hN hn ST S
  obtain ⟨ST2, a1, a2, a3, a4, a5, a6⟩ := rb_afresh hN S1 t3 h5 SY
  obtain ⟨SM1, s1, s2⟩ := rb_save hN SM0
  obtain ⟨a, b, c, -, e, f, g9, -⟩ := hn
  have hP := a.2.1.2.2
  let M2 : zMS := mSI (mSI (mSI (mSI (mSI SM1 3 0) 4 0) 5 0) 6 0) 35 0
  let S2 : zHS := hSI (hSI (hSI (hSI S1 11 0) 12 0) 13 0) 14 0
  have fM : rbFr SM1 M2 := ((((rbFr.rf.I (by decide)).I (by decide)).I (by decide)).I (by decide)).I (by decide)
  have fS : rbFh S1 S2 := (((rbFh.rf.I (by decide)).I (by decide)).I (by decide)).I (by decide)
  have k1 : rbK S1 SM1 SD nT nP L := s2.K (hj.K (a.eq t2))
  have e1 : rbE S1 SM1 := s2.E (hj.E (b.eq t2))
  have e2 : rbE S2 M2 := ⟨rfl, ⟨0, by omega, rfl⟩, rfl, rfl, rfl, e1.2.2.2.2.2.1, e1.2.2.2.2.2.2.1, e1.2.2.2.2.2.2.2⟩
  have h33 : M2.1 33 = -1 := (s2.1 33 (by decide)).trans ((hj.1 33 (by decide)).trans f)
  have h34 : M2.1 34 = -1 := (s2.1 34 (by decide)).trans ((hj.1 34 (by decide)).trans g9)
  obtain ⟨ST3, S3, SE3, M3, u1, u2, u3, u4, u5, u6⟩ := rb_runO hN hp h5 hg 60 0 N N ST2 S2 SE M2 (by omega) (by omega) (by omega) (show S1.2.2.1 p = some w by rw [t2.2.2.2.2.2.1 p (by omega)]; exact hw) (k1.fr fS fM) e2 ((c.eq t2).e rfl rbSE.rf) a2 (fun i hi => (a3 i hi).trans (hy i hi)) (by
    by_cases c0 : nT = 0
    · exact Or.inr ⟨c0, a4⟩
    · exact Or.inl (by rw [a4, Nat.zero_mod]; rfl)) (rb_cp0 (a5.trans t6) h33 (by decide)) (fun i hi => by rw [show M2.2.1 44 = SM1.2.1 44 from rfl, s2.2.1 44 (by decide)]; exact h44 i hi) h34 (by rw [a6, t8]; rfl) ⟨0, a6.trans t8, by omega⟩
  obtain ⟨C, c1, c2, c3, c4⟩ := rb_putBack hN s2 (fM.tr u3)
  refine ⟨ST1, ST2, ST3, S1, S2, S3, SE3, C, t1, a1, u1, ?_, hj.tr c2, ?_, ?_, u4, u6⟩
  · unfold f_X12_spentAsOrdered
    rw [s1, kC_p]
    simp only [kL_p]
    refine (show f_X12_spentAsOrdered_l31 N N M2 (nI p) 0 = _ from u2).trans ?_
    rw [c1, kC_p, c3, u5]
  · rw [c4 45 (by decide), u3.2.1 45 (by decide)]
    show SM1.2.1 45 = _
    exact s2.2.1 45 (by decide)
  · rw [c4 44 (by decide), u3.2.1 44 (by decide)]
    show SM1.2.1 44 = _
    exact s2.2.1 44 (by decide)
/-- the end of the reference's order -/
def rbEnd (x2 most : Int32) (SM : zMS) : Option (Int32 × zMS) := kB (0 ≤ x2) (kB ((SM.1 0) ≤ x2) (some ((-5), SM)) (kO (¬ (x2 < 0 ∨ 5 ≤ Int32.toNatClampNeg x2)) (some ((SM.2.1 45 (Int32.toNatClampNeg x2)), SM)))) (some (most, SM))
theorem rb_l67 (N : Nat) {k36 : zMS → Int32 → Int32 → Int32 → Int32 → Option (Int32 × zMS)} {x1 x2 x3 x4 : Int32} : ∀ (j x n : Nat) (A : zMS), x + j = 5 → j < n → (∀ i : Nat, i < x → A.2.1 45 i = A.2.1 44 i) → ∃ B : zMS, f_X12_order_l67 N k36 n A x1 x2 x3 x4 (nI x) = k36 B x1 x2 x3 (x4 + 1) ∧ rbJ A B ∧ (∀ i : Nat, i < 5 → B.2.1 45 i = A.2.1 44 i)
  | j, x, 0, A, _, h, _ => by omega
  | 0, x, n + 1, A, hx, _, hp => by
    have hx : x = 5 := by omega
    subst hx
    refine ⟨A, ?_, rbJ.rf, hp⟩
    rw [s_X12_order_l67]
    show kB _ _ _ = _
    rw [kB_p (by decide), kL_p]
  | j + 1, x, n + 1, A, hx, hn, hp => by
    obtain ⟨B, b1, b2, b3⟩ := rb_l67 N (k36 := k36) (x1 := x1) (x2 := x2) (x3 := x3) (x4 := x4) j (x + 1) n (mSA A 45 (upd (A.2.1 45) x (A.2.1 44 x))) (by omega) (by omega) (by
      intro i hi
      rw [mSA_s, mSA_o _ _ (by decide)]
      by_cases c : i = x
      · subst c; rw [pk_us]
      · rw [pk_un c]; exact hp i (by omega))
    have hA : rbJ A (mSA A 45 (upd (A.2.1 45) x (A.2.1 44 x))) := ⟨fun _ _ => rfl, fun k hk => mSA_o _ _ (by intro e; subst e; exact hk (by decide)), fun t _ => by rw [mSA_o _ _ (by decide)], rfl⟩
    refine ⟨B, ?_, hA.tr b2, fun i hi => (b3 i hi).trans (by rw [mSA_o _ _ (by decide)])⟩
    rw [s_X12_order_l67]
    show kB _ _ _ = _
    rw [kB_n (show ¬ (5 : Int32) ≤ nI x from nI_ge (b := 5) (by omega) (by omega)), kO_p (nI_in (by omega) (by decide)), kO_p (nI_in (by omega) (by decide)), nI_clamp (by omega), kL_p, kL_p, nI_1]
    exact b1
theorem rb_order_l (hN : 101 ≤ N) (h5 : nT ≤ 5) (hp : p < nP) (hw : SN.2.2.1 p = some w) {x2 : Int32} : ∀ (j k n n' : Nat) (ST : zTS) (S : zHS) (SY SZ : Nat → Int32) (SE : List ((Nat → Nat) × zQS)) (SM : zMS) (most : Int32), k + (j + 1) = rbFa nT → j + 2 < n → j + 2 < n' → rbNow SN SB SD SE nT nP L → rbJ SB SM → (∀ i : Nat, i < nT → SY i = nI (rbG nT k i)) → ((∀ i : Nat, i < nT → SZ i = SM.2.1 45 i) ∨ most = -1) →
    ∃ (most' : Int32) (ST' : zTS) (S' : zHS) (SY' SZ' : Nat → Int32) (SE' : List ((Nat → Nat) × zQS)) (SM' : zMS), f_X11_bestOrder_l46 N SX SN SK SR SV SG SD n ST S SY SZ SE (some w) (nI nT) most 1 (nI k) = some (most', ST', S', SY', SZ', SE') ∧ f_X12_order_l36 N n' SM (nI p) x2 most (nI k) = rbEnd x2 most' SM' ∧ rbJ SB SM' ∧ rbSE SE SE' ∧ ∀ i : Nat, i < nT → SZ' i = SM'.2.1 45 i
  | j, k, 0, n', ST, S, SY, SZ, SE, SM, most, _, h, _, _, _, _, _ => by omega
  | j, k, n + 1, 0, ST, S, SY, SZ, SE, SM, most, _, _, h, _, _, _, _ => by omega
  | j, k, n + 1, n' + 1, ST, S, SY, SZ, SE, SM, most, hk, hn1, hn2, hn, hj, hy, hz => by
    have hT := hn.1.1
    have hb := rbFa_b nT (by omega)
    have h0 : SM.1 0 = nI nT := (hj.1 0 (by decide)).trans hT.2.1
    obtain ⟨c1, c2, c3⟩ := rb_chkP (show nT < 6 by omega) (show k < rbFa nT by omega)
    obtain ⟨SM0, l1, l2, l3, l4, l5⟩ := (rb_lay hN (show nT < 6 by omega) (show k ≤ rbFa nT by omega) h0).1 (by omega)
    have hj0 : rbJ SB SM0 := hj.tr ⟨fun i _ => by rw [l2], fun i hi => l3 i (by intro e; subst e; exact hi (by decide)), fun t _ => by rw [l3 10 (by decide)], l4⟩
    obtain ⟨ST1, ST2, ST3, S1, S2, S3, SE3, C, t1, t2, t3, t4, t5, t6, t64, t7, q0, tq, tq2⟩ := rb_spent (g := rbG nT k) hN hn h5 hp hw c2 hj0 l5 hy ST S
    have hn' := hn.j rbJ.rf t7
    have t644 : C.2.1 45 = SM.2.1 45 := t6.trans (l3 45 (by decide))
    have hrw : rbRw SY (rbG nT k) nT := fun i hi => ⟨hy i hi, by have := c2 i hi; omega⟩
    have hnx := rb_next hN h5 hrw
    have e1 : ¬ (120 : Int32) ≤ nI k := nI_ge (b := 120) (by omega) (by decide)
    have e3 : ∀ most x5, f_X12_order_l36 N (n' + 1) SM (nI p) x2 most x5 = kD (f_X12_layOrder N SM x5) (fun r8 SM_9 => kB (r8 = 0) (rbEnd x2 most SM_9) (kD (f_X12_spentAsOrdered N SM_9 (nI p)) (fun r15 SM_16 => kB (most < r15) (f_X12_order_l67 N (f_X12_order_l36 N n') N SM_16 (nI p) x2 r15 x5 0) (kL (x5 + 1) (fun v19 => f_X12_order_l36 N n' SM_16 (nI p) x2 most v19))))) := fun most x5 => rfl
    -- behind this row, whatever is best then
    have fin : ∀ (most2 : Int32) (SZ2 : Nat → Int32) (SM2 : zMS), rbJ SB SM2 → (∀ i : Nat, i < nT → SZ2 i = SM2.2.1 45 i) →
        ∃ (most' : Int32) (ST' : zTS) (S' : zHS) (SY' SZ' : Nat → Int32) (SE' : List ((Nat → Nat) × zQS)) (SM' : zMS), f_X11_bestOrder_b124 N SX SN SK SR SV SG SD (f_X11_bestOrder_l46 N SX SN SK SR SV SG SD n) ST3 S3 SY SZ2 SE3 (some w) (nI nT) most2 (nI k) = some (most', ST', S', SY', SZ', SE') ∧ f_X12_order_l36 N n' SM2 (nI p) x2 most2 (nI (k + 1)) = rbEnd x2 most' SM' ∧ rbJ SB SM' ∧ rbSE SE SE' ∧ ∀ i : Nat, i < nT → SZ' i = SM'.2.1 45 i := by
      intro most2 SZ2 SM2 hj2 hz2
      unfold f_X11_bestOrder_b124
      rcases c3 with ⟨d1, d2⟩ | ⟨g', d1, d2, d3⟩
      · rw [d1] at hnx
        rw [hnx, kD_p, kL_p, nI_1]
        obtain ⟨m, rfl⟩ : ∃ m, n = m + 1 := ⟨n - 1, by omega⟩
        obtain ⟨m', rfl⟩ : ∃ m', n' = m' + 1 := ⟨n' - 1, by omega⟩
        have h02 : SM2.1 0 = nI nT := (hj2.1 0 (by decide)).trans hT.2.1
        refine ⟨most2, ST3, S3, SY, SZ2, SE3, SM2, ?_, ?_, hj2, t7, hz2⟩
        · rw [s_X11_bestOrder_l46]
          show kB _ _ _ = _
          by_cases q : (120 : Int32) ≤ nI (k + 1)
          · rw [kB_p q]
          · rw [kB_n q, kB_00]
        · have := (rb_lay hN (show nT < 6 by omega) (show k + 1 ≤ rbFa nT by omega) h02).2 (by omega)
          rw [s_X12_order_l36]
          show kD (f_X12_layOrder N SM2 (nI (k + 1))) _ = _
          rw [this, kD_p, kB_00]
          rfl
      · rw [d1] at hnx
        obtain ⟨SB2, q1, q2⟩ := hnx
        rw [q1, kD_p, kL_p, nI_1]
        obtain ⟨j', rfl⟩ : ∃ j', j = j' + 1 := ⟨j - 1, by omega⟩
        obtain ⟨most', ST', S', SY', SZ', SE', SM', u1, u2, u3, u4, u5⟩ := rb_order_l hN h5 hp hw (x2 := x2) j' (k + 1) n n' ST3 S3 SB2 SZ2 SE3 SM2 most2 (by omega) (by omega) (by omega) hn' hj2 (fun i hi => by rw [(q2 i hi).1, d3 i hi]) (Or.inl hz2)
        exact ⟨most', ST', S', SY', SZ', SE', SM', u1, u2, u3, t7.tr u4, u5⟩
    rw [e3, l1, kD_p, kB_10, t4, kD_p, s_X11_bestOrder_l46]
    show ∃ _ _ _ _ _ _ _, kB _ _ _ = _ ∧ _
    rw [kB_n e1, kB_10, t1, kD_p, t2, kD_p, t3, kD3_p]
    by_cases q : ST3.1 6 ≤ most
    · rw [kB_p q, kB_n (Int32.not_lt.mpr q), kL_p, nI_1]
      have hz' := hz.resolve_right (by
        intro e
        rw [tq2, e] at q
        exact absurd q (Int32.not_le.mpr (Int32.lt_of_lt_of_le (show (-1 : Int32) < 0 by decide) (nI_pos' (by omega)))))
      exact fin most SZ C t5 (fun i hi => by rw [t644]; exact hz' i hi)
    · rw [kB_n q, kB_p (Int32.not_le.mp q), kL_p]
      obtain ⟨B, b1, b2, b3⟩ := rb_l67 N (k36 := f_X12_order_l36 N n') (x1 := nI p) (x2 := x2) (x3 := ST3.1 6) (x4 := nI k) 5 0 N C (by omega) (by omega) (fun i hi => by omega)
      rw [show f_X12_order_l67 N (f_X12_order_l36 N n') N C (nI p) x2 (ST3.1 6) (nI k) 0 = _ from b1, nI_1]
      have h44 : ∀ i : Nat, i < nT → C.2.1 44 i = SY i := fun i hi => by rw [t64, l5 i hi, hy i hi]
      refine fin (ST3.1 6) _ B (t5.tr b2) ?_
      intro i hi
      rw [b3 i (by omega), h44 i hi]
      show va_cpy SY SZ 0 0 5 i = _
      rw [pk_cpy_in (by omega) (by omega), Nat.zero_add, Nat.sub_zero]
theorem rb_ord0 (N : Nat) (hN : 101 ≤ N) (h5 : nT ≤ 5) {x1 : Option Nat} : ∀ (j x n : Nat) (SY : Nat → Int32), x + j = nT → j < n → (∀ i : Nat, i < x → SY i = nI i) → ∃ SY' : Nat → Int32, f_X11_bestOrder_l13 N SX SN SK SR SV SG SD n ST S SY SZ SE x1 (nI nT) (-1) (nI x) = f_X11_bestOrder_l46 N SX SN SK SR SV SG SD N ST S SY' SZ SE x1 (nI nT) (-1) 1 0 ∧ ∀ i : Nat, i < nT → SY' i = nI i
  | j, x, 0, SY, _, h, _ => by omega
  | 0, x, n + 1, SY, hx, _, hi => by
    have hx : x = nT := by omega
    subst hx
    refine ⟨SY, ?_, hi⟩
    rw [s_X11_bestOrder_l13]
    show kB _ _ _ = _
    rw [kB_p (nI_le (by omega) (by omega))]
  | j + 1, x, n + 1, SY, hx, hn, hi => by
    obtain ⟨SY', i1, i2⟩ := rb_ord0 N hN h5 (x1 := x1) j (x + 1) n (upd SY x (nI x)) (by omega) (by omega) (by
      intro i hi2
      by_cases c : i = x
      · subst c; rw [pk_us]
      · rw [pk_un c]; exact hi i (by omega))
    refine ⟨SY', ?_, i2⟩
    rw [s_X11_bestOrder_l13]
    show kB _ _ _ = _
    rw [kB_n (nI_ge (by omega) (by omega)), kB_n (show ¬ (5 : Int32) ≤ nI x from nI_ge (b := 5) (by omega) (by decide)), kO_p (nI_in (by omega) (by decide)), nI_clamp (by omega), kL_p, kL_p, nI_1]
    exact i1
def rbQ6 (x : Option (Int32 × zTS × zHS × (Nat → Int32) × (Nat → Int32) × List ((Nat → Nat) × zQS))) (y : Option (Int32 × zMS)) (SM : zMS) (SE : List ((Nat → Nat) × zQS)) : Prop := ∃ (r : Int32) (ST' : zTS) (S' : zHS) (SY' SZ' : Nat → Int32) (SE' : List ((Nat → Nat) × zQS)) (SM' : zMS), x = some (r, ST', S', SY', SZ', SE') ∧ y = some (r, SM') ∧ rbJ SM SM' ∧ rbSE SE SE'
theorem rb_order (hN : 201 ≤ N) (hn : rbNow SN SM SD SE nT nP L) (x1 x2 : Int32) : rbQ6 (f_X11_order N SX SN SK ST S SR SV SG SY SZ SD SE x1 x2) (f_X12_order N SM x1 x2) SM SE := by
  have hT := hn.1.1
  unfold f_X11_order f_X12_order
  have base : ∀ v : Int32, rbQ6 (some (v, ST, S, SY, SZ, SE)) (some (v, SM)) SM SE := fun v => ⟨_, _, _, _, _, _, _, rfl, rfl, rbJ.rf, rbSE.rf⟩
  rcases rb_pc hn.1 x1 with ⟨e1, e2⟩ | ⟨p, w, k, v, hp, rfl, e1, e3, -, -, -, -, -, e2⟩
  · rw [e1, kC_p, kN_p0, e2, kC_p, kB_00]; exact base _
  · rw [e1, kC_p, kN_p1, e2, kC_p, kB_10]
    by_cases c : x2 < -1
    · rw [kB_p c, rb_in0 (Or.inl c), kC_p, kB_00]; exact base _
    · rw [kB_n c]
      have h54 : x2 < 5 ↔ x2 ≤ 4 := by
        rw [Int32.lt_iff_toInt_lt, Int32.le_iff_toInt_le]
        have z5 : (5 : Int32).toInt = 5 := rfl
        have z4 : (4 : Int32).toInt = 4 := rfl
        omega
      by_cases d : x2 ≤ 4
      · rw [kB_p (h54.mpr d), rb_in1 c d, kC_p, kB_10, hT.1, hT.2.1]
        by_cases c5 : nT ≤ 5
        · have hb := rbFa_b nT (by omega)
          rw [kB_p (show nI nT ≤ (5 : Int32) from nI_le (b := 5) c5 (by decide)), kB_p (show nI nT ≤ (5 : Int32) from nI_le (b := 5) c5 (by decide))]
          obtain ⟨SY', i1, i2⟩ := rb_ord0 (SX := SX) (SN := SN) (SK := SK) (SR := SR) (SV := SV) (SG := SG) (SD := SD) (ST := ST) (S := S) (SZ := SZ) (SE := SE) N (by omega) c5 (x1 := some w) nT 0 N SY (by omega) (by omega) (fun i hi => by omega)
          obtain ⟨most', ST', S', SY2, SZ', SE', SM', u1, u2, u3, u4, u5⟩ := rb_order_l (N := N) (SX := SX) (SR := SR) (SK := SK) (SV := SV) (SG := SG) (show 101 ≤ N by omega) c5 hp e3 (x2 := x2) (rbFa nT - 1) 0 N N ST S SY' SZ SE SM (-1) (by omega) (by omega) (by omega) hn rbJ.rf (fun i hi => by rw [i2 i hi, rb_chk0 nT (by omega) i hi]) (Or.inr rfl)
          have u1' : f_X11_bestOrder N SX SN SK ST S SR SV SG SY SZ SD SE (some w) = some (most', ST', S', SY2, SZ', SE') := by
            unfold f_X11_bestOrder
            rw [hT.1]
            exact i1.trans u1
          have u2' : f_X12_order_l36 N N SM (nI p) x2 (-1) 0 = rbEnd x2 most' SM' := u2
          rw [u1', kD6_p, u2']
          unfold rbEnd
          have h0 : SM'.1 0 = nI nT := (u3.1 0 (by decide)).trans hT.2.1
          by_cases q : 0 ≤ x2
          · rw [kB_p q, kB_p q, h0]
            by_cases q2 : nI nT ≤ x2
            · rw [kB_p q2, kB_p q2]; exact ⟨_, _, _, _, _, _, _, rfl, rfl, u3, u4⟩
            · obtain ⟨i, hi, rfl⟩ := nI_of2 (M := 4) (n := 4) rfl (Int32.not_lt.mpr q) d
              have hlt : i < nT := by
                rw [nI_leI (by omega) (by omega)] at q2
                omega
              rw [kB_n q2, kB_n q2, kO_p (nI_in (by omega) (by decide)), kO_p (nI_in (by omega) (by decide)), nI_clamp (by omega), u5 i hlt]
              exact ⟨_, _, _, _, _, _, _, rfl, rfl, u3, u4⟩
          · rw [kB_n q, kB_n q]; exact ⟨_, _, _, _, _, _, _, rfl, rfl, u3, u4⟩
        · rw [kB_n (show ¬ nI nT ≤ (5 : Int32) from nI_ge (a := 5) (by omega) (by omega)), kB_n (show ¬ nI nT ≤ (5 : Int32) from nI_ge (a := 5) (by omega) (by omega))]; exact base _
      · rw [kB_n (fun q => d (h54.mp q)), rb_in0 (Or.inr d), kC_p, kB_00]; exact base _
end RBZ
