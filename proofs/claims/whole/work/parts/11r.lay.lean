/-! B: the reference lays a row; what is spent by it -/
theorem rb_hasD : ∀ left : Nat, left < 32 → ∀ t : Nat, t < 5 → (nI left >>> (nI t &&& 31)) &&& 1 = nI (left / 2 ^ t % 2) := by decide +kernel
theorem rb_clrD : ∀ left : Nat, left < 32 → ∀ t : Nat, t < 5 → nI left &&& (((1 : Int32) <<< (nI t &&& 31)) ^^^ (-1)) = nI (rbClr left t) ∧ rbClr left t < 32 := by decide +kernel
section RBL
variable {N n : Nat}
theorem rb_mhas (SM : zMS) {left t : Nat} (hl : left < 32) (ht : t < 5) : f_X12_has SM (nI left) (nI t) = some (if left / 2 ^ t % 2 = 1 then 1 else 0) := by
  unfold f_X12_has
  simp only [kL_p]
  rw [rb_hasD left hl t ht]
  have h2 : left / 2 ^ t % 2 < 2 := Nat.mod_lt _ (by decide)
  by_cases c : left / 2 ^ t % 2 = 1
  · rw [c, kB_p (by decide), if_pos rfl]
  · have : left / 2 ^ t % 2 = 0 := by omega
    rw [this, kB_n (by decide), if_neg (by decide)]
theorem rb_l78 {k44 : zMS → Int32 → Int32 → Int32 → Int32 → Option (Int32 × zMS)} {left k u : Nat} {all rest : Int32} (hl : left < 32) (hk : k < 5) : ∀ (j t nth m : Nat) (SM : zMS), rbPk left nth t j = some u → t + j ≤ 5 → nth < 2 ^ 31 → j < m → f_X12_layOrder_l78 N k44 m SM all (nI left) rest (nI k) (nI nth) (nI t) = k44 (mSA SM 44 (upd (SM.2.1 44) k (nI u))) all (nI (rbClr left u)) rest (nI (k + 1))
  | 0, t, nth, m, SM, h, _, _, _ => by cases h
  | j + 1, t, nth, 0, SM, _, _, _, h => by omega
  | j + 1, t, nth, m + 1, SM, h, h5, hn, hm => by
    have e : rbPk left nth t (j + 1) = if left / 2 ^ t % 2 = 1 then (if nth = 0 then some t else rbPk left (nth - 1) (t + 1) j) else rbPk left nth (t + 1) j := rfl
    rw [e] at h
    have hh := fun SM => rb_mhas SM hl (show t < 5 by omega)
    rw [s_X12_layOrder_l78]
    show kC _ _ = _
    unfold f_X12_layOrder_b93
    rw [hh, kC_p]
    by_cases c : left / 2 ^ t % 2 = 1
    · rw [if_pos c] at h
      rw [if_pos c, kB_10, kC_p, kB_10]
      by_cases d : nth = 0
      · rw [if_pos d] at h
        cases h
        subst d
        rw [kB_p (by decide), kO_p (nI_in hk (by decide)), nI_clamp (by omega)]
        simp only [kL_p]
        rw [(rb_clrD left hl u (by omega)).1, nI_1]
      · rw [if_neg d] at h
        obtain ⟨nth', rfl⟩ : ∃ q, nth = q + 1 := ⟨nth - 1, by omega⟩
        rw [kB_n (nI_nle (by omega) hn), kL_p, kL_p, nI_pred, nI_1]
        exact rb_l78 hl hk j (t + 1) nth' m SM h (by omega) (by omega) (by omega)
    · rw [if_neg c] at h
      rw [if_neg c, kB_00, kC_p, kB_00, kL_p, kL_p, Int32.sub_zero, nI_1]
      exact rb_l78 hl hk j (t + 1) nth m SM h (by omega) (by omega) (by omega)
theorem rbPk_lt {left u : Nat} : ∀ {j t nth : Nat}, rbPk left nth t j = some u → u < t + j
  | 0, t, nth, h => by cases h
  | j + 1, t, nth, h => by
    have e : rbPk left nth t (j + 1) = if left / 2 ^ t % 2 = 1 then (if nth = 0 then some t else rbPk left (nth - 1) (t + 1) j) else rbPk left nth (t + 1) j := rfl
    rw [e] at h
    split at h
    · split at h
      · cases h; omega
      · have := rbPk_lt h; omega
    · have := rbPk_lt h; omega
theorem rb_l44 (hN : 101 ≤ N) (hn : n ≤ 5) : ∀ (m k n' all left rest : Nat) (SM : zMS) (l : List Nat), rbLay n all left rest k m = some l → k + m = n → m < n' → SM.1 0 = nI n → left < 32 → all < 2 ^ 31 → rest < 2 ^ 31 →
    ∃ SM', f_X12_layOrder_l44 N n' SM (nI all) (nI left) (nI rest) (nI k) = some (1, SM') ∧ SM'.1 = SM.1 ∧ (∀ j : Nat, j ≠ 44 → SM'.2.1 j = SM.2.1 j) ∧ SM'.2.2 = SM.2.2 ∧ (∀ i : Nat, i < k → SM'.2.1 44 i = SM.2.1 44 i) ∧ ∀ i : Nat, i < m → SM'.2.1 44 (k + i) = nI (l.getD i 0)
  | m, k, 0, all, left, rest, SM, l, _, _, h, _, _, _, _ => by omega
  | 0, k, n' + 1, all, left, rest, SM, l, h, hk, _, h0, _, _, _ => by
    refine ⟨SM, ?_, rfl, fun _ _ => rfl, rfl, fun _ _ => rfl, fun i hi => by omega⟩
    rw [s_X12_layOrder_l44]
    show kB _ _ _ = _
    rw [h0, kB_p (nI_le (by omega) (by omega))]
  | m + 1, k, n' + 1, all, left, rest, SM, l, h, hk, hm, h0, hl, ha, hr => by
    have e : rbLay n all left rest k (m + 1) = if all / (n - k) = 0 then none else match rbPk left (rest / (all / (n - k))) 0 5 with
      | none => none
      | some u => match rbLay n (all / (n - k)) (rbClr left u) (rest % (all / (n - k))) (k + 1) m with
        | none => none
        | some l => some (u :: l) := rfl
    rw [e] at h
    split at h
    · cases h
    · rename_i hz
      cases hp : rbPk left (rest / (all / (n - k))) 0 5 with
      | none => rw [hp] at h; cases h
      | some u =>
        rw [hp] at h
        cases hq : rbLay n (all / (n - k)) (rbClr left u) (rest % (all / (n - k))) (k + 1) m with
        | none =>
          simp only [hq] at h
          cases h
        | some l2 =>
          simp only [hq] at h
          cases h
          have hu := rbPk_lt hp
          have hA : all / (n - k) ≤ all := Nat.div_le_self _ _
          have hR : rest / (all / (n - k)) ≤ rest := Nat.div_le_self _ _
          have hM : rest % (all / (n - k)) ≤ rest := Nat.mod_le _ _
          obtain ⟨SM', q1, q2, q3, q4, q5, q6⟩ := rb_l44 hN hn m (k + 1) n' (all / (n - k)) (rbClr left u) (rest % (all / (n - k))) (mSA SM 44 (upd (SM.2.1 44) k (nI u))) l2 hq (by omega) (by omega) h0 (rb_clrD left hl u (by omega)).2 (by omega) (by omega)
          refine ⟨SM', ?_, q2, fun j hj => (q3 j hj).trans (mSA_o _ _ hj), q4, fun i hi => ?_, fun i hi => ?_⟩
          · rw [s_X12_layOrder_l44]
            show kB _ _ _ = _
            have hz' : 0 < all / (n - k) := Nat.pos_of_ne_zero hz
            have hA' : all / (n - k) < 2 ^ 31 := Nat.lt_of_le_of_lt hA ha
            have e1 : nI all / nI (n - k) = nI (all / (n - k)) := pk_div ha (by omega) (by omega)
            have e2 : nI rest / nI (all / (n - k)) = nI (rest / (all / (n - k))) := pk_div hr hz' hA'
            have e3 : nI rest - nI rest / nI (all / (n - k)) * nI (all / (n - k)) = nI (rest % (all / (n - k))) := pk_rem hr hz' hA'
            have e4 : ¬ nI (all / (n - k)) = 0 := nI_ne0 hz' hA'
            rw [h0, kB_n (nI_ge (by omega) (by omega)), kL_p, pk_sub (by omega), kO_p (nI_ne0 (by omega) (by omega)), kL_p, e1, kO_p e4, kL_p, kO_p e4, kL_p, e3, e2]
            have hl78 := rb_l78 (N := N) (k44 := f_X12_layOrder_l44 N n') (all := nI (all / (n - k))) (rest := nI (rest % (all / (n - k)))) hl (show k < 5 by omega) 5 0 (rest / (all / (n - k))) N SM hp (by omega) (Nat.lt_of_le_of_lt hR hr) (by omega)
            refine Eq.trans hl78 ?_
            exact q1
          · rw [q5 i (by omega), mSA_s, pk_un (by omega)]
          · cases i with
            | zero => rw [Nat.add_zero, q5 k (by omega), mSA_s, pk_us]; rfl
            | succ i => rw [show k + (i + 1) = k + 1 + i by omega, q6 i (by omega)]; rfl
theorem rb_lay1 (hN : 101 ≤ N) (hn : n < 6) {num : Nat} (hk : num < 2 ^ 20) {SM : zMS} (h0 : SM.1 0 = nI n) : f_X12_layOrder N SM (nI num) = kB (nI num < nI (rbFa n)) (f_X12_layOrder_l44 N N SM (nI (rbFa n)) (nI (2 ^ n - 1)) (nI num) 0) (some (0, SM)) := by
  obtain ⟨M, rfl⟩ : ∃ M, N = M + 7 := ⟨N - 7, by omega⟩
  unfold f_X12_layOrder
  have hc : n = 0 ∨ n = 1 ∨ n = 2 ∨ n = 3 ∨ n = 4 ∨ n = 5 := by omega
  have st : ∀ (m : Nat) (x y : Int32), f_X12_layOrder_l4 (M + 7) (m + 1) SM (nI num) x y = kB ((SM.1 0) < y) (kB (nI num < x) (kL ((1 : Int32) <<< ((SM.1 0) &&& 31)) (fun v3 => kL (v3 - 1) (fun v4 => f_X12_layOrder_l44 (M + 7) (M + 7) SM x v4 (nI num) 0))) (some (0, SM))) (kL (x * y) (fun v5 => kL (y + 1) (fun v6 => f_X12_layOrder_l4 (M + 7) m SM (nI num) v5 v6))) := fun m x y => rfl
  rcases hc with rfl | rfl | rfl | rfl | rfl | rfl
  · rw [st, h0, kB_p (by decide)]; rfl
  · rw [st, h0, kB_p (by decide)]; rfl
  · rw [st, h0, kB_n (by decide), kL_p, kL_p, st, h0, kB_p (by decide)]; rfl
  · rw [st, h0, kB_n (by decide), kL_p, kL_p, st, h0, kB_n (by decide), kL_p, kL_p, st, h0, kB_p (by decide)]; rfl
  · rw [st, h0, kB_n (by decide), kL_p, kL_p, st, h0, kB_n (by decide), kL_p, kL_p, st, h0, kB_n (by decide), kL_p, kL_p, st, h0, kB_p (by decide)]; rfl
  · rw [st, h0, kB_n (by decide), kL_p, kL_p, st, h0, kB_n (by decide), kL_p, kL_p, st, h0, kB_n (by decide), kL_p, kL_p, st, h0, kB_n (by decide), kL_p, kL_p, st, h0, kB_p (by decide)]; rfl
theorem rbFa_b : ∀ n : Nat, n < 6 → rbFa n ≤ 120 ∧ 1 ≤ rbFa n ∧ 2 ^ n - 1 < 32 := by decide
theorem rb_lay (hN : 101 ≤ N) (hn : n < 6) {num : Nat} (hk : num ≤ rbFa n) {SM : zMS} (h0 : SM.1 0 = nI n) : (num < rbFa n → ∃ SM', f_X12_layOrder N SM (nI num) = some (1, SM') ∧ SM'.1 = SM.1 ∧ (∀ j : Nat, j ≠ 44 → SM'.2.1 j = SM.2.1 j) ∧ SM'.2.2 = SM.2.2 ∧ ∀ i : Nat, i < n → SM'.2.1 44 i = nI (rbG n num i)) ∧ (¬ num < rbFa n → f_X12_layOrder N SM (nI num) = some (0, SM)) := by
  have hb := rbFa_b n hn
  rw [rb_lay1 hN hn (by omega) h0]
  constructor
  · intro h
    obtain ⟨SM', q1, q2, q3, q4, -, q6⟩ := rb_l44 hN (by omega) n 0 N (rbFa n) (2 ^ n - 1) num SM _ (rb_chkP hn h).1 (by omega) (by omega) h0 (by omega) (by omega) (by omega)
    rw [kB_p (nI_lt h (by omega))]
    refine ⟨SM', q1, q2, q3, q4, fun i hi => ?_⟩
    have := q6 i hi
    rw [Nat.zero_add] at this
    exact this
  · intro h
    rw [kB_n (nI_nlt (by omega) (by omega))]
end RBL
section RBP
variable {N : Nat} {SN S : zHS} {SM SB SM1 : zMS} {SD : List (Nat × zPS)} {SE : List ((Nat → Nat) × zQS)} {ST : zTS} {nT nP p w : Nat} {L : List rbCl} {SX SR : zRS} {SK : zHS} {SV : Nat → Nat → Int64} {SG SY SZ : Nat → Int32} {g : Nat → Nat}
theorem rb_modn {x n : Nat} (hn : 0 < n) (h5 : n ≤ 5) : (x + 1) % n = if x % n + 1 < n then x % n + 1 else 0 := by
  have hc : n = 1 ∨ n = 2 ∨ n = 3 ∨ n = 4 ∨ n = 5 := by omega
  rcases hc with rfl | rfl | rfl | rfl | rfl <;> split <;> omega
theorem rb_runO (hN : 101 ≤ N) (hp : p < nP) (h5 : nT ≤ 5) (hg : ∀ i : Nat, i < nT → g i < nT) : ∀ (j x n n' : Nat) (ST : zTS) (S : zHS) (SE : List ((Nat → Nat) × zQS)) (SM : zMS), x + j = 60 → j < n → j < n' → S.2.2.1 p = some w → rbK S SM SD nT nP L → rbE S SM → rbCc S SE L → ST.1 2 = nI nT → (∀ i : Nat, i < nT → ST.2 i = nI (g i)) → ST.1 3 = nI (x % nT) ∨ nT = 0 ∧ ST.1 3 = nI 0 → rbCp j (ST.1 4) (SM.1 33) → (∀ i : Nat, i < nT → SM.2.1 44 i = nI (g i)) → SM.1 34 = -1 → ST.1 6 = SM.1 35 → (∃ q : Nat, ST.1 6 = nI q ∧ q ≤ 20 * x) →
    ∃ (ST' : zTS) (S' : zHS) (SE' : List ((Nat → Nat) × zQS)) (SM' : zMS), f_X10_run_l3 N SD n ST S SE (some w) (some w) 60 (nI x) = some (ST', S', SE') ∧ f_X12_spentAsOrdered_l31 N n' SM (nI p) (nI x) = kC (f_X12_putBack N SM') (fun C => some (C.1 35, C)) ∧ rbFr SM SM' ∧ rbSE SE SE' ∧ ST'.1 6 = SM'.1 35 ∧ ∃ q : Nat, q < 2 ^ 20 ∧ ST'.1 6 = nI q
  | j, x, 0, n', ST, S, SE, SM, _, h, _, _, _, _, _, _, _, _, _, _, _, _, _ => by omega
  | j, x, n + 1, 0, ST, S, SE, SM, _, _, h, _, _, _, _, _, _, _, _, _, _, _, _ => by omega
  | 0, x, n + 1, n' + 1, ST, S, SE, SM, hx, _, _, hw, hk, he, hc, h2, hi, h3, hcp, h44, h34, h6, ⟨q0, hq1, hq2⟩ => by
    have hx : x = 60 := by omega
    subst hx
    refine ⟨ST, S, SE, SM, ?_, ?_, rbFr.rf, rbSE.rf, h6, q0, by omega, hq1⟩
    · rw [s_X10_run_l3]
      show kB _ _ _ = _
      rw [kB_p (show (60 : Int32) ≤ nI 60 by decide)]
    · rw [s_X12_spentAsOrdered_l31]
      show kB _ _ _ = _
      rw [kB_p (show (60 : Int32) ≤ nI 60 by decide)]
  | j + 1, x, n + 1, n' + 1, ST, S, SE, SM, hx, hn1, hn2, hw, hk, he, hc, h2, hi, h3, hcp, h44, h34, h6, ⟨q0, hq1, hq2⟩ => by
    have hT := hk.1
    have hlt : ¬ (60 : Int32) ≤ nI x := nI_ge (b := 60) (by omega) (by omega)
    have ov : f_X12_isOver N SM = some (if rbHow S = 0 ∧ 0 < nT then 0 else 1) := by
      unfold f_X12_isOver
      rw [(rb_how hN hk he).2, kC_p, hT.2.1, h34]
      by_cases c2 : rbHow S = 0
      · rw [kB_p c2]
        by_cases c3 : nT = 0
        · subst c3
          rw [kB_p (by decide), if_neg (fun q => absurd q.2 (by decide))]
        · rw [kB_n (nI_ne0 (by omega) (by omega)), kB_p (by decide), if_pos ⟨c2, by omega⟩]
      · rw [kB_n c2, if_neg (fun q => c2 q.1)]
    by_cases c : rbHow S = 0 ∧ 0 < nT
    · rw [if_pos c] at ov
      have hxm : x % nT < nT := Nat.mod_lt _ c.2
      have h3' : ST.1 3 = nI (x % nT) := h3.resolve_right (by omega)
      have go : f_X10_goesOn ST S = some 1 := by
        rw [rb_goes hk he h3' h2 hxm (by omega), if_pos c.1]
      obtain ⟨r, ST1, S1, SE1, SM2, t1, t2, t3, ⟨s1, s2, s3, s4, s5, s6, s7, s8, s9⟩, t5, t6, t7, t8, t9, d, td, t10, t11⟩ := rb_step (b := j) hN hk he hc hp (hg _ hxm) hw c.1 h3' h2 hxm (by omega) (hi _ hxm) hcp
      obtain ⟨ST', S', SE', SM', u1, u2, u3, u4, u5⟩ := rb_runO hN hp h5 hg j (x + 1) n n' ST1 S1 SE1 SM2 (by omega) (by omega) (by omega) (by rw [s3.2.2]; exact hw) (hk.fr s3 s4) s2 (hc.e (by rw [s3.2.2]) s1) (t6.trans h2) (by rw [t5]; exact hi) (Or.inl (by rw [t7, rb_modn c.2 h5])) t9 (by rw [s4.2.1 44 (by decide)]; exact h44) ((s4.1 34 (by decide)).trans h34) (by rw [t10, t11, h6]) ⟨q0 + d, by rw [t10, hq1, nI_add], by omega⟩
      refine ⟨ST', S', SE', SM', ?_, ?_, s4.tr u3, s1.tr u4, u5⟩
      · rw [s_X10_run_l3]
        show kB _ _ _ = _
        rw [kB_n hlt, go, kC_p, kB_10]
        simp only [kL_p, t1, kD4_p, nI_1, u1]
        by_cases e : nI x - nI x / 2 * 2 = 0
        · rw [kB_p e]
        · rw [kB_n e]
      · rw [s_X12_spentAsOrdered_l31]
        show kB _ _ _ = _
        rw [kB_n hlt, ov, kC_p, kB_00, hT.2.1, kO_p (nI_ne0 c.2 (by omega)), kL_p, pk_rem (by omega) c.2 (by omega), kO_p (nI_in (by omega) (by decide)), nI_clamp (by omega), h44 _ hxm, t2, kD_p, kL_p, nI_1, u2]
    · rw [if_neg c] at ov
      have go : f_X10_goesOn ST S = some 0 := by
        by_cases c3 : nT = 0
        · subst c3
          rcases h3 with h3 | ⟨-, h3⟩
          · rw [Nat.mod_zero] at h3
            unfold f_X10_goesOn
            rw [h3, h2, kB_n (nI_pos (by omega)), kB_p (nI_le (by omega) (by omega))]
          · exact rb_nogo h3 h2 (by omega)
        · have hxm : x % nT < nT := Nat.mod_lt _ (by omega)
          rw [rb_goes hk he (h3.resolve_right (by omega)) h2 hxm (by omega), if_neg (fun q => c ⟨q, by omega⟩)]
      refine ⟨ST, S, SE, SM, ?_, ?_, rbFr.rf, rbSE.rf, h6, q0, by omega, hq1⟩
      · rw [s_X10_run_l3]
        show kB _ _ _ = _
        rw [kB_n hlt, go, kC_p, kB_00]
      · rw [s_X12_spentAsOrdered_l31]
        show kB _ _ _ = _
        rw [kB_n hlt, ov, kC_p, kB_10]
end RBP
