/-! B: the reference's factors, its E whole -/
section RBMG
variable {N n pos c e0 E1 k : Nat} {B : Nat → Nat} {S S0 : zMS} {em : List rbTk} {W : List Nat}
theorem m_set (hN : 201 ≤ N) (h0 : rbMz n B S0 c e0 E1) {em' : List rbTk} {Q : List Nat} (h : rbM S0 c e0 S pos em' (Q ++ W)) (hQ : Q = [] ∨ Q = [38] ∨ Q = [124] ∨ Q = [38, 124]) (he : em' ++ rbPo 124 Q = em) (hW : ∀ w r, W = w :: r → w ≠ 38 ∧ w ≠ 124) (hp : pos ≤ n) (hq : e0 + em.length + W.length ≤ E1 + pos) (h38 : ¬ rbBy n B pos = 38) (h124 : ¬ rbBy n B pos = 124) : ∃ S10, f_X12_settle N S 124 = some S10 ∧ rbM S0 c e0 (mSA S10 24 (upd (S10.2.1 24) c (S10.1 27))) pos em W ∧ (mSA S10 24 (upd (S10.2.1 24) c (S10.1 27))).2.1 24 c = nI (e0 + em.length) := by
  have hn := h0.1
  have hz := h0.2.2.2.2
  obtain ⟨z1, z2, z3⟩ := rbPo_124 hW hQ
  have hlen := congrArg List.length he
  rw [List.length_append, z3] at hlen
  obtain ⟨S1, u1, u2⟩ := m_settle N h0 hp (Or.inr rfl) (Q ++ W) em' S N (by rw [List.length_append]; omega) h (by rw [List.length_append]; omega)
  rw [z1, z2, he] at u2
  refine ⟨S1, u1, ?_, ?_⟩
  · obtain ⟨a, b, d, e, f, g, f1, f2, f3, f4, f5⟩ := u2
    refine ⟨a, b, d, e, f, g, f1, ?_, f3, ?_, f5⟩
    · intro k hk
      rw [mSA_o _ _ (fun q => hk (by rw [q]; decide))]
      exact f2 k hk
    · intro i hi
      show upd (S1.2.1 24) c (S1.1 27) i = _
      rw [pk_un hi]
      exact f4 i hi
  · show upd (S1.2.1 24) c (S1.1 27) c = _
    rw [pk_us, u2.2.1]
theorem m_cl (hN : 201 ≤ N) (h0 : rbMz n B S0 c e0 E1) {em' : List rbTk} {Q : List Nat} (h : rbM S0 c e0 S pos em' (Q ++ W)) (hQ : Q = [] ∨ Q = [38] ∨ Q = [124] ∨ Q = [38, 124]) (he : em' ++ rbPo 124 Q = em) (hW : ∀ w r, W = w :: r → w ≠ 38 ∧ w ≠ 124) (hp : pos ≤ n) (hq : e0 + em.length + W.length ≤ E1 + pos) (h38 : ¬ rbBy n B pos = 38) (h124 : ¬ rbBy n B pos = 124) (m : Nat) : ∃ S13, rbM S0 c e0 S13 pos em W ∧ S13.2.1 24 c = nI (e0 + em.length) ∧ f_X12_takesE_l22 N (m + 1) S (nI c) 0 = kB ((S13.1 28) = 0) (some (1, S13)) (kB (mNx n B pos = 41) (kL ((S13.1 28) - 1) (fun v16 => kL (mSI S13 28 v16) (fun SM_17 => kL ((SM_17.1 29) - 1) (fun v18 => kL (mSI SM_17 29 v18) (fun SM_19 => kL ((SM_19.1 17) + 1) (fun v20 => kL (mSI SM_19 17 v20) (fun SM_21 => kC (f_X12_whole N SM_21) (fun SM_22 => (f_X12_takesE_l22 N m) SM_22 (nI c) 0)))))))) (some (0, S13))) := by
  have hc := h0.2.2.2.1
  have hmp := h.p h0
  obtain ⟨S10, u1, u2, u3⟩ := m_set hN h0 h hQ he hW hp hq h38 h124
  refine ⟨_, u2, u3, ?_⟩
  rw [s_X12_takesE_l22]
  show kC _ _ = _
  rw [m_next hmp hp, kC_p, kB_00, kB_n (show ¬ mNx n B pos = 38 from fun e => h38 ((m_nx hmp (k := 38) (by decide)).mp e)), kB_n (show ¬ mNx n B pos = 124 from fun e => h124 ((m_nx hmp (k := 124) (by decide)).mp e)), u1, kC_p, kO_p (nI_in hc (by decide)), nI_clamp (by omega), kL_p]
theorem m_end (hN : 201 ≤ N) (h0 : rbMz n B S0 c e0 E1) {em' : List rbTk} {Q : List Nat} (h : rbM S0 c e0 S pos em' (Q ++ [])) (hQ : Q = [] ∨ Q = [38] ∨ Q = [124] ∨ Q = [38, 124]) (he : em' ++ rbPo 124 Q = em) (hp : pos ≤ n) (hq : e0 + em.length ≤ E1 + pos) (h38 : ¬ rbBy n B pos = 38) (h124 : ¬ rbBy n B pos = 124) (m : Nat) : ∃ S13, f_X12_takesE_l22 N (m + 1) S (nI c) 0 = some (1, S13) ∧ rbM S0 c e0 S13 pos em [] ∧ S13.2.1 24 c = nI (e0 + em.length) := by
  obtain ⟨S13, u1, u2, u3⟩ := m_cl hN h0 h hQ he (fun w r e => by cases e) hp (by exact hq) h38 h124 m
  refine ⟨S13, ?_, u1, u2⟩
  rw [u3, kB_p (show S13.1 28 = 0 from u1.2.2.1)]
theorem m_par (hN : 201 ≤ N) (h0 : rbMz n B S0 c e0 E1) {em' : List rbTk} {Q : List Nat} (h : rbM S0 c e0 S pos em' (Q ++ 40 :: W)) (hQ : Q = [] ∨ Q = [38] ∨ Q = [124] ∨ Q = [38, 124]) (he : em' ++ rbPo 124 Q = em) (hp : pos ≤ n) (hq : e0 + em.length + (W.length + 1) ≤ E1 + pos) (h38 : ¬ rbBy n B pos = 38) (h124 : ¬ rbBy n B pos = 124) (m : Nat) : (rbBy n B pos = 41 → ∃ S', f_X12_takesE_l22 N (m + 1) S (nI c) 0 = f_X12_takesE_l22 N m S' (nI c) 0 ∧ rbM S0 c e0 S' (pos + 1) (em ++ rbNots W) (rbStrip W)) ∧ (¬ rbBy n B pos = 41 → ∃ S', f_X12_takesE_l22 N (m + 1) S (nI c) 0 = some (0, S') ∧ S'.1 17 = nI pos ∧ rbFe S0 c e0 S') := by
  have hn := h0.1
  have hz := h0.2.2.2.2
  have hmp := h.p h0
  obtain ⟨S13, u1, u2, u3⟩ := m_cl hN h0 h hQ he (fun w r e => by cases e; decide) hp hq h38 h124 m
  obtain ⟨a, b, d, e, f, g, f1⟩ := u1
  have d : S13.1 28 = nI (W.length + 1) := d
  have e : S13.1 29 = nI (rbOp W + 1) := e
  have n28 : ¬ S13.1 28 = 0 := by rw [d]; exact nI_ne0 (by omega) (by omega)
  rw [u3, kB_n n28]
  refine ⟨fun h41 => ?_, fun h41 => ?_⟩
  · have p1 := rbBy_lt (show rbBy n B pos < 128 by omega)
    rw [kB_p (show mNx n B pos = 41 from (m_nx hmp (k := 41) (by decide)).mpr h41)]
    simp only [kL_p]
    rw [d, nI_pred, mSI_o _ _ (by decide), e, nI_pred, mSI_o _ _ (by decide), mSI_o _ _ (by decide), a, nI_1]
    obtain ⟨S2, v1, v2⟩ := m_whole N h0 (show pos + 1 ≤ n from p1) W em (mSI (mSI (mSI S13 28 (nI W.length)) 29 (nI (rbOp W))) 17 (nI (pos + 1))) N (by omega) ⟨mSI_s _ _ _, b, by rw [mSI_o _ _ (by decide), mSI_o _ _ (by decide), mSI_s], by rw [mSI_o _ _ (by decide), mSI_s], f, g.2.2, ((f1.i (by decide)).i (by decide)).i (by decide)⟩ (by omega)
    refine ⟨S2, ?_, v2⟩
    unfold f_X12_whole
    rw [v1, kC_p]
  · rw [kB_n (show ¬ mNx n B pos = 41 from fun e => h41 ((m_nx hmp (k := 41) (by decide)).mp e))]
    exact ⟨S13, rfl, a, f1⟩
theorem m_F (hN : 201 ≤ N) (h0 : rbMz n B S0 c e0 E1) : ∀ k : Nat, rbHF N n B S0 c e0 E1 k
  | 0 => by
    intro pos em W S m h hp hq hk hm
    have hmp := h.p h0
    obtain ⟨m, rfl⟩ : ∃ m', m = m' + 1 := ⟨m - 1, by omega⟩
    show rbGo N c e0 S0 _ (pTest (rbBy n B) pos) pos _ (fun S' => rbM S0 c e0 S' (pTest (rbBy n B) pos).2.1 (em ++ (pTest (rbBy n B) pos).2.2 ++ rbNots W) (rbStrip W))
    by_cases d : rbBy n B pos = 33 ∨ rbBy n B pos = 40
    · have et : pTest (rbBy n B) pos = (false, pos, []) := by
        unfold pTest
        rcases d with d | d <;> rw [d] <;> rfl
      rw [et]
      refine ⟨fun q => (by cases q), fun _ => ⟨S, ?_, h.1, h.2.2.2.2.2.2⟩⟩
      have e4 : S.1 29 = 4 := by
        rw [h.2.2.2.1, show rbOp W = 4 by omega]
        rfl
      have b43 : ∀ (k22 : zMS → Int32 → Int32 → Option (Int32 × zMS)) (x1 x2 x3 : Int32), f_X12_takesE_b43 N k22 S x1 x2 x3 = some (0, S) := by
        intro k22 x1 x2 x3
        unfold f_X12_takesE_b43
        rw [kB_p e4]
      rw [s_X12_takesE_l22]
      show kC _ _ = _
      rw [m_next hmp hp, kC_p, kB_10, b43]
      rcases d with d | d
      · rw [kB_p (show mNx n B pos = 33 from (m_nx hmp (k := 33) (by decide)).mpr d)]
      · rw [kB_n (show ¬ mNx n B pos = 33 from fun e => by have := (m_nx hmp (k := 33) (by decide)).mp e; omega), kB_p (show mNx n B pos = 40 from (m_nx hmp (k := 40) (by decide)).mpr d)]
    · exact m_lt hN h0 h hp hq (fun e => d (Or.inl e)) (fun e => d (Or.inr e)) m
  | k + 1 => by
    intro pos em W S m h hp hq hk hm
    have hn := h0.1
    have HF := m_F hN h0 k
    obtain ⟨m, rfl⟩ : ∃ m', m = m' + 1 := ⟨m - 1, by omega⟩
    have e1 : pF (rbBy n B) (k + 1) pos = if rbBy n B pos = 33 then (if (pF (rbBy n B) k (pos + 1)).1 then (true, (pF (rbBy n B) k (pos + 1)).2.1, (pF (rbBy n B) k (pos + 1)).2.2 ++ [(1, 0, 0, 0)]) else (false, (pF (rbBy n B) k (pos + 1)).2.1, []))
      else if rbBy n B pos = 40 then (if (pE (pF (rbBy n B) k) (rbBy n B) (pos + 1)).1 then (if rbBy n B (pE (pF (rbBy n B) k) (rbBy n B) (pos + 1)).2.1 = 41 then (true, (pE (pF (rbBy n B) k) (rbBy n B) (pos + 1)).2.1 + 1, (pE (pF (rbBy n B) k) (rbBy n B) (pos + 1)).2.2) else (false, (pE (pF (rbBy n B) k) (rbBy n B) (pos + 1)).2.1, [])) else (false, (pE (pF (rbBy n B) k) (rbBy n B) (pos + 1)).2.1, []))
      else pTest (rbBy n B) pos := rfl
    rw [e1]
    by_cases c33 : rbBy n B pos = 33
    · have p1 := rbBy_lt (show rbBy n B pos < 128 by omega)
      obtain ⟨S1, u1, u2⟩ := m_lp (N := N) h0 h p1 hq (by omega) (Or.inl rfl) c33 m
      have o33 : rbOp (33 :: W) = rbOp W + 1 := rfl
      obtain ⟨v1, v2⟩ := HF (pos + 1) em (33 :: W) S1 m u2 p1 (by show e0 + em.length + (W.length + 1) ≤ _; omega) (by rw [o33]; omega) (by omega)
      rw [if_pos c33, u1]
      cases q : (pF (rbBy n B) k (pos + 1)).1 with
      | true =>
        obtain ⟨m2, S2, w1, w2, w3⟩ := v1 q
        rw [if_pos (rfl : true = true), w1]
        refine ⟨fun _ => ⟨m2, S2, rfl, by show m + 1 + pos ≤ m2 + (pF (rbBy n B) k (pos + 1)).2.1; omega, ?_⟩, fun q => (by cases q)⟩
        have en : em ++ (pF (rbBy n B) k (pos + 1)).2.2 ++ rbNots (33 :: W) = em ++ ((pF (rbBy n B) k (pos + 1)).2.2 ++ [(1, 0, 0, 0)]) ++ rbNots W := by
          rw [List.append_assoc, List.append_assoc, List.append_assoc]
          rfl
        rw [en] at w3
        exact w3
      | false =>
        rw [if_neg Bool.false_ne_true]
        obtain ⟨S2, w1, w2, w3⟩ := v2 q
        exact ⟨fun q => (by cases q), fun _ => ⟨S2, w1, w2, w3⟩⟩
    · rw [if_neg c33]
      by_cases c40 : rbBy n B pos = 40
      · have p1 := rbBy_lt (show rbBy n B pos < 128 by omega)
        obtain ⟨S1, u1, u2⟩ := m_lp (N := N) h0 h p1 hq (by omega) (Or.inr rfl) c40 m
        have o40 : rbOp (40 :: W) = rbOp W + 1 := rfl
        obtain ⟨v1, v2⟩ := m_E (pos := pos + 1) (em := em) (W := 40 :: W) (S := S1) (m := m) hN h0 HF (fun w r e => by cases e; decide) (by rw [o40]; omega) u2 p1 (by show e0 + em.length + (W.length + 1) ≤ _; omega) (by omega)
        have ok := pE_ok (B := B) (fun p hp => pF_ok (B := B) k p hp) (show pos + 1 ≤ n from p1)
        rw [if_pos c40, u1]
        cases q : (pE (pF (rbBy n B) k) (rbBy n B) (pos + 1)).1 with
        | true =>
          obtain ⟨m2, S2, w1, w2, Q2, em2, w3, w4, w5, w6, w7⟩ := v1 q
          obtain ⟨k1, k2, k3, -⟩ := ok.1 q
          obtain ⟨m2, rfl⟩ : ∃ m', m2 = m' + 1 := ⟨m2 - 1, by omega⟩
          obtain ⟨y1, y2⟩ := m_par hN h0 w4 w3 w5 k2 (by rw [List.length_append]; omega) w6 w7 m2
          rw [if_pos (rfl : true = true), w1]
          by_cases c41 : rbBy n B (pE (pF (rbBy n B) k) (rbBy n B) (pos + 1)).2.1 = 41
          · obtain ⟨S3, x1, x2⟩ := y1 c41
            rw [if_pos c41, x1]
            exact ⟨fun _ => ⟨m2, S3, rfl, by show m + 1 + pos ≤ m2 + ((pE (pF (rbBy n B) k) (rbBy n B) (pos + 1)).2.1 + 1); omega, x2⟩, fun q => (by cases q)⟩
          · obtain ⟨S3, x1, x2, x3⟩ := y2 c41
            rw [if_neg c41, x1]
            exact ⟨fun q => (by cases q), fun _ => ⟨S3, rfl, x2, x3⟩⟩
        | false =>
          rw [if_neg Bool.false_ne_true]
          obtain ⟨S2, w1, w2, w3⟩ := v2 q
          exact ⟨fun q => (by cases q), fun _ => ⟨S2, w1, w2, w3⟩⟩
      · rw [if_neg c40]
        exact m_lt hN h0 h hp hq c33 c40 m
/-- E whole -/
theorem m_takesE (hN : 201 ≤ N) (h0 : rbMz n B S0 c e0 E1) (h17 : S0.1 17 = nI pos) (h27 : S0.1 27 = nI e0) (hp : pos ≤ n) (hq : e0 ≤ E1 + pos) : ∃ S', f_X12_takesE N S0 (nI c) = some (if (pE (pF (rbBy n B) 4) (rbBy n B) pos).1 then 1 else 0, S') ∧ S'.1 17 = nI (pE (pF (rbBy n B) 4) (rbBy n B) pos).2.1 ∧ rbFe (mSA S0 23 (upd (S0.2.1 23) c (nI e0))) c e0 S' ∧ ((pE (pF (rbBy n B) 4) (rbBy n B) pos).1 = true → S'.1 27 = nI (e0 + (pE (pF (rbBy n B) 4) (rbBy n B) pos).2.2.length) ∧ S'.2.1 24 c = nI (e0 + (pE (pF (rbBy n B) 4) (rbBy n B) pos).2.2.length) ∧ rbAt (S'.2.1 25) rbEM e0 (pE (pF (rbBy n B) 4) (rbBy n B) pos).2.2) := by
  have hn := h0.1
  have hc := h0.2.2.2.1
  unfold f_X12_takesE
  simp only [kL_p]
  have e27 : (mSI (mSI S0 28 0) 29 0).1 27 = nI e0 := by rw [mSI_o _ _ (by decide), mSI_o _ _ (by decide), h27]
  rw [kO_p (nI_in hc (by decide)), nI_clamp (by omega), e27]
  have hz : rbMz n B (mSA S0 23 (upd (S0.2.1 23) c (nI e0))) c e0 E1 := ⟨h0.1, h0.2.1, h0.2.2.1, h0.2.2.2⟩
  have hM : rbM (mSA S0 23 (upd (S0.2.1 23) c (nI e0))) c e0 (mSA (mSI (mSI S0 28 0) 29 0) 23 (upd ((mSI (mSI S0 28 0) 29 0).2.1 23) c (nI e0))) pos [] [] := by
    refine ⟨?_, ?_, ?_, ?_, trivial, trivial, ?_, fun _ _ => rfl, rfl, fun _ _ => rfl, fun _ _ => rfl⟩
    · rw [mSA_1, mSI_o _ _ (by decide), mSI_o _ _ (by decide), h17]
    · rw [mSA_1, e27]
      rfl
    · rw [mSA_1, mSI_o _ _ (by decide), mSI_s]
      rfl
    · rw [mSA_1, mSI_s]
      rfl
    · intro k hk
      rw [mSA_1, mSI_o _ _ (fun q => hk (by rw [q]; decide)), mSI_o _ _ (fun q => hk (by rw [q]; decide))]
      rfl
  obtain ⟨v1, v2⟩ := m_E hN hz (m_F hN hz 4) (fun w r e => by cases e) rfl hM hp (by show e0 + 0 + 0 ≤ _; omega) (show n + 2 ≤ N + pos by omega)
  have ok := pE_ok (B := B) (fun p hp => pF_ok (B := B) 4 p hp) hp
  cases q : (pE (pF (rbBy n B) 4) (rbBy n B) pos).1 with
  | true =>
    obtain ⟨m2, S2, w1, w2, Q2, em2, w3, w4, w5, w6, w7⟩ := v1 q
    obtain ⟨k1, k2, k3, -⟩ := ok.1 q
    obtain ⟨m2, rfl⟩ : ∃ m', m2 = m' + 1 := ⟨m2 - 1, by omega⟩
    obtain ⟨S3, x1, x2, x3⟩ := m_end hN hz w4 w3 w5 k2 (by show e0 + (pE (pF (rbBy n B) 4) (rbBy n B) pos).2.2.length ≤ _; omega) w6 w7 m2
    rw [w1, x1, if_pos (rfl : true = true)]
    obtain ⟨a, b, -, -, f, -, f1⟩ := x2
    exact ⟨S3, rfl, a, f1, fun _ => ⟨b, x3, f⟩⟩
  | false =>
    obtain ⟨S2, w1, w2, w3⟩ := v2 q
    rw [w1, if_neg Bool.false_ne_true]
    exact ⟨S2, rfl, w2, w3, fun q => (by cases q)⟩
end RBMG
