/-! B: the reference's clauses -/
theorem m_letD : ∀ w : Nat, w < 4 → ∀ x : Nat, x < 4 → rbLet.getD (4 * w + x) 0 = nI ((pWl w).getD x 0) := by decide +kernel
def rbCv (q : rbQc) : rbCl := (nI q.1, nI q.2.1, q.2.2)
def rbFq (S0 : zMS) (c e0 : Nat) (S : zMS) : Prop := (∀ k : Nat, k ∉ ([17, 18, 27, 28, 29] : List Nat) → S.1 k = S0.1 k) ∧ (∀ k : Nat, k ∉ ([21, 22, 23, 24, 25, 26] : List Nat) → S.2.1 k = S0.2.1 k) ∧ S.2.2 = S0.2.2 ∧ (∀ i : Nat, i ≠ c → S.2.1 21 i = S0.2.1 21 i ∧ S.2.1 22 i = S0.2.1 22 i ∧ S.2.1 23 i = S0.2.1 23 i ∧ S.2.1 24 i = S0.2.1 24 i) ∧ ∀ i : Nat, i < e0 → S.2.1 25 i = S0.2.1 25 i
def rbFg (S0 : zMS) (f : Nat) (S : zMS) : Prop := (∀ k : Nat, k ∉ ([17, 18, 27, 28, 29] : List Nat) → S.1 k = S0.1 k) ∧ (∀ k : Nat, k ∉ ([20, 21, 22, 23, 24, 25, 26] : List Nat) → S.2.1 k = S0.2.1 k) ∧ S.2.2 = S0.2.2 ∧ (∀ i : Nat, i ≠ f → S.2.1 20 i = S0.2.1 20 i) ∧ (∀ i : Nat, i < 10 * f → S.2.1 21 i = S0.2.1 21 i ∧ S.2.1 22 i = S0.2.1 22 i ∧ S.2.1 23 i = S0.2.1 23 i ∧ S.2.1 24 i = S0.2.1 24 i) ∧ ∀ i : Nat, i < 100 * f → S.2.1 25 i = S0.2.1 25 i
section RBMH
variable {N n pos c e0 E1 f k : Nat} {B : Nat → Nat} {S S0 S1 : zMS}
theorem rbFg.rf : rbFg S f S := ⟨fun _ _ => rfl, fun _ _ => rfl, rfl, fun _ _ => rfl, fun _ _ => ⟨rfl, rfl, rfl, rfl⟩, fun _ _ => rfl⟩
theorem rbFg.q (h : rbFg S0 f S) (g : rbFq S c e0 S1) (hc : 10 * f ≤ c) (he : 100 * f ≤ e0) : rbFg S0 f S1 := by
  obtain ⟨h1, h2, h3, h4, h5, h6⟩ := h
  obtain ⟨g1, g2, g3, g4, g5⟩ := g
  refine ⟨fun k hk => (g1 k hk).trans (h1 k hk), fun k hk => (g2 k ?_).trans (h2 k hk), g3.trans h3, fun i hi => ?_, fun i hi => ?_, fun i hi => (g5 i (by omega)).trans (h6 i hi)⟩
  · intro q
    apply hk
    simp only [List.mem_cons, List.not_mem_nil, or_false] at q ⊢
    exact Or.inr q
  · rw [g2 20 (by decide)]
    exact h4 i hi
  · obtain ⟨a, b, c, d⟩ := g4 i (by omega)
    obtain ⟨a', b', c', d'⟩ := h5 i hi
    exact ⟨a.trans a', b.trans b', c.trans c', d.trans d'⟩
theorem rbMl_w {B B' : Nat} (hB : B ≤ B') : ∀ {L : List rbCl} {k : Nat}, rbMl S B L k → rbMl S B' L k
  | [], _, _ => trivial
  | c :: L, k, h => by
    obtain ⟨a, b, d, e⟩ := h
    refine ⟨a, b, fun q => ?_, rbMl_w hB e⟩
    obtain ⟨s, s1, s2, s3, s4⟩ := d q
    exact ⟨s, s1, s2, by omega, s4⟩
theorem rbMl_f {B : Nat} (h5 : ∀ i : Nat, i < B → S1.2.1 25 i = S.2.1 25 i) : ∀ {L : List rbCl} {k : Nat}, (∀ i : Nat, k ≤ i → i < k + L.length → S1.2.1 21 i = S.2.1 21 i ∧ S1.2.1 22 i = S.2.1 22 i ∧ S1.2.1 23 i = S.2.1 23 i ∧ S1.2.1 24 i = S.2.1 24 i) → rbMl S B L k → rbMl S1 B L k
  | [], _, _, _ => trivial
  | c :: L, k, hk, h => by
    obtain ⟨a, b, d, e⟩ := h
    obtain ⟨k1, k2, k3, k4⟩ := hk k (Nat.le_refl _) (by show k < k + (L.length + 1); omega)
    refine ⟨k1.trans a, k2.trans b, fun q => ?_, rbMl_f h5 (fun i p1 p2 => hk i (by omega) (by show i < k + (L.length + 1); omega)) e⟩
    obtain ⟨s, s1, s2, s3, s4, s5⟩ := d q
    exact ⟨s, k3.trans s1, k4.trans s2, s3, rbAt_u (fun i p1 p2 => h5 i (by omega)) s4, s5⟩
theorem rbMl_a {B : Nat} {L' : List rbCl} : ∀ {L : List rbCl} {k : Nat}, rbMl S B (L ++ L') k ↔ rbMl S B L k ∧ rbMl S B L' (k + L.length)
  | [], k => by
    show rbMl S B L' k ↔ True ∧ rbMl S B L' (k + 0)
    rw [Nat.add_zero, true_and]
  | c :: L, k => by
    show (S.2.1 21 k = c.1 ∧ S.2.1 22 k = c.2.1 ∧ (c.1 = 0 ∨ c.1 = 1 → ∃ s : Nat, S.2.1 23 k = nI s ∧ S.2.1 24 k = nI (s + c.2.2.length) ∧ s + c.2.2.length ≤ B ∧ rbAt (S.2.1 25) rbEM s c.2.2 ∧ c.2.2.length ≤ 100) ∧ rbMl S B (L ++ L') (k + 1)) ↔ (S.2.1 21 k = c.1 ∧ S.2.1 22 k = c.2.1 ∧ (c.1 = 0 ∨ c.1 = 1 → ∃ s : Nat, S.2.1 23 k = nI s ∧ S.2.1 24 k = nI (s + c.2.2.length) ∧ s + c.2.2.length ≤ B ∧ rbAt (S.2.1 25) rbEM s c.2.2 ∧ c.2.2.length ≤ 100) ∧ rbMl S B L (k + 1)) ∧ rbMl S B L' (k + (L.length + 1))
    rw [rbMl_a, show k + (L.length + 1) = k + 1 + L.length by omega]
    simp only [and_assoc]
theorem m_wst (hL : rbLt S) (h : rbMp n B (mSI S 17 (nI pos)) pos) (hp : pos ≤ n) {w x : Nat} (hw : w < 4) (hx : x < 4) {ch : Nat} (hc : (pWl w).getD x 0 = ch) (hc1 : ch < 128) (m : Nat) : f_X12_takesWord_l2 N (m + 1) (mSI S 17 (nI pos)) (nI (4 * w)) 4 (nI x) = if rbBy n B pos = ch then f_X12_takesWord_l2 N m (mSI S 17 (nI (pos + 1))) (nI (4 * w)) 4 (nI (x + 1)) else some (0, mSI S 17 (nI pos)) := by
  have e30 : (mSI S 17 (nI pos)).2.1 30 (4 * w + x) = nI ch := by
    show S.2.1 30 (4 * w + x) = nI ch
    rw [hL _ (by omega), m_letD w hw x hx, hc]
  rw [s_X12_takesWord_l2]
  show kB _ _ _ = _
  rw [kB_n (show ¬ (4 : Int32) ≤ nI x from nI_ge (b := 4) hx (by decide)), nI_add, kL_p, kO_p (nI_in (by omega) (by decide)), nI_clamp (by omega), e30, m_takes h hp hc1]
  by_cases q : rbBy n B pos = ch
  · rw [if_pos q, if_pos q, kD_p, kB_10, kL_p, nI_1, mSI_u]
  · rw [if_neg q, if_neg q, kD_p, kB_00]
theorem m_wse (h : rbMp n B (mSI S 17 (nI pos)) pos) (hp : pos ≤ n) (x1 : Int32) (m : Nat) : f_X12_takesWord_l2 N (m + 1) (mSI S 17 (nI pos)) x1 4 (nI 4) = some (if rbBy n B pos = 32 then (1, mSI S 17 (nI (pos + 1))) else (0, mSI S 17 (nI pos))) := by
  rw [s_X12_takesWord_l2]
  show kB _ _ _ = _
  rw [kB_p (show (4 : Int32) ≤ nI 4 by decide), show (32 : Int32) = nI 32 from rfl, m_takes h hp (by decide)]
  by_cases q : rbBy n B pos = 32
  · rw [if_pos q, if_pos q, kD_p, kO_p (Or.inr rfl), mSI_u]
  · rw [if_neg q, if_neg q, kD_p, kO_p (Or.inl rfl)]
theorem m_word (hN : 201 ≤ N) (hL : rbLt S) (h : rbMp n B S pos) (hp : pos ≤ n) {w : Nat} (hw : w < 4) : f_X12_takesWord N S (nI (4 * w)) 4 = some (if (pLit (rbBy n B) (pWl w) pos).1 = true ∧ rbBy n B (pLit (rbBy n B) (pWl w) pos).2 = 32 then (1, mSI S 17 (nI ((pLit (rbBy n B) (pWl w) pos).2 + 1))) else (0, mSI S 17 (nI (pLit (rbBy n B) (pWl w) pos).2))) := by
  obtain ⟨M, rfl⟩ : ∃ M, N = M + 1 + 1 + 1 + 1 + 1 := ⟨N - 5, by omega⟩
  have hS : mSI S 17 (nI pos) = S := mSI_id h.2.2.1
  have hmp : ∀ p : Nat, rbMp n B (mSI S 17 (nI p)) p := fun p => h.go
  have hw4 : ∃ c0 c1 c2 c3, pWl w = [c0, c1, c2, c3] ∧ c0 < 128 ∧ c1 < 128 ∧ c2 < 128 ∧ c3 < 128 := by
    unfold pWl
    repeat' split
    all_goals exact ⟨_, _, _, _, rfl, by decide, by decide, by decide, by decide⟩
  obtain ⟨c0, c1, c2, c3, hw5, w0, w1, w2, w3⟩ := hw4
  have a0 := m_wst (N := M + 1 + 1 + 1 + 1 + 1) hL (hmp pos) hp hw (x := 0) (by decide) (ch := c0) (by rw [hw5]; rfl) w0 (M + 1 + 1 + 1 + 1)
  unfold f_X12_takesWord
  rw [hS] at a0
  rw [show f_X12_takesWord_l2 (M + 1 + 1 + 1 + 1 + 1) (M + 1 + 1 + 1 + 1 + 1) S (nI (4 * w)) 4 0 = _ from a0, hw5]
  by_cases d0 : rbBy n B pos = c0
  · have e0 : pLit (rbBy n B) [c0, c1, c2, c3] pos = pLit (rbBy n B) [c1, c2, c3] (pos + 1) := if_pos d0
    have p1 := rbBy_lt (show rbBy n B pos < 128 by omega)
    rw [if_pos d0, m_wst (N := M + 1 + 1 + 1 + 1 + 1) hL (hmp _) p1 hw (x := 1) (by decide) (ch := c1) (by rw [hw5]; rfl) w1 (M + 1 + 1 + 1), e0]
    by_cases d1 : rbBy n B (pos + 1) = c1
    · have e1 : pLit (rbBy n B) [c1, c2, c3] (pos + 1) = pLit (rbBy n B) [c2, c3] (pos + 1 + 1) := if_pos d1
      have p2 := rbBy_lt (show rbBy n B (pos + 1) < 128 by omega)
      rw [if_pos d1, m_wst (N := M + 1 + 1 + 1 + 1 + 1) hL (hmp _) p2 hw (x := 2) (by decide) (ch := c2) (by rw [hw5]; rfl) w2 (M + 1 + 1), e1]
      by_cases d2 : rbBy n B (pos + 1 + 1) = c2
      · have e2 : pLit (rbBy n B) [c2, c3] (pos + 1 + 1) = pLit (rbBy n B) [c3] (pos + 1 + 1 + 1) := if_pos d2
        have p3 := rbBy_lt (show rbBy n B (pos + 1 + 1) < 128 by omega)
        rw [if_pos d2, m_wst (N := M + 1 + 1 + 1 + 1 + 1) hL (hmp _) p3 hw (x := 3) (by decide) (ch := c3) (by rw [hw5]; rfl) w3 (M + 1), e2]
        by_cases d3 : rbBy n B (pos + 1 + 1 + 1) = c3
        · have e3 : pLit (rbBy n B) [c3] (pos + 1 + 1 + 1) = (true, pos + 1 + 1 + 1 + 1) := if_pos d3
          have p4 := rbBy_lt (show rbBy n B (pos + 1 + 1 + 1) < 128 by omega)
          rw [if_pos d3, m_wse (hmp _) p4, e3]
          by_cases d4 : rbBy n B (pos + 1 + 1 + 1 + 1) = 32
          · rw [if_pos d4, if_pos (show true = true ∧ rbBy n B (pos + 1 + 1 + 1 + 1) = 32 from ⟨rfl, d4⟩)]
          · rw [if_neg d4, if_neg (show ¬ (true = true ∧ rbBy n B (pos + 1 + 1 + 1 + 1) = 32) from fun h => d4 h.2)]
        · have e3 : pLit (rbBy n B) [c3] (pos + 1 + 1 + 1) = (false, pos + 1 + 1 + 1) := if_neg d3
          rw [if_neg d3, e3, if_neg (fun h => by cases h.1)]
      · have e2 : pLit (rbBy n B) [c2, c3] (pos + 1 + 1) = (false, pos + 1 + 1) := if_neg d2
        rw [if_neg d2, e2, if_neg (fun h => by cases h.1)]
    · have e1 : pLit (rbBy n B) [c1, c2, c3] (pos + 1) = (false, pos + 1) := if_neg d1
      rw [if_neg d1, e1, if_neg (fun h => by cases h.1)]
  · have e0 : pLit (rbBy n B) [c0, c1, c2, c3] pos = (false, pos) := if_neg d0
    rw [if_neg d0, e0, if_neg (fun h => by cases h.1), hS]
theorem m_head (hN : 201 ≤ N) (hL : rbLt S) (h : rbMp n B S pos) (hp : pos ≤ n) (hc : c < 60) : f_X12_takesHead N S (nI c) = some (if (pLit (rbBy n B) (pWl (pWi (rbBy n B pos))) pos).1 = true ∧ rbBy n B (pLit (rbBy n B) (pWl (pWi (rbBy n B pos))) pos).2 = 32 then (1, mSI (mSA S 21 (upd (S.2.1 21) c (nI (pWi (rbBy n B pos))))) 17 (nI ((pLit (rbBy n B) (pWl (pWi (rbBy n B pos))) pos).2 + 1))) else (0, mSI (mSA S 21 (upd (S.2.1 21) c (nI (pWi (rbBy n B pos))))) 17 (nI (pLit (rbBy n B) (pWl (pWi (rbBy n B pos))) pos).2))) := by
  have hl : ∀ v, rbLt (mSA S 21 v) := fun v => hL
  have hm : ∀ v, rbMp n B (mSA S 21 v) pos := fun v => h
  have key : ∀ (w : Nat) (x : Int32), x = nI (4 * w) → w < 4 → kD (f_X12_takesWord N (mSA S 21 (upd (S.2.1 21) c (nI w))) x 4) (fun r6 SM_7 => kO (r6 = 0 ∨ r6 = 1) (some (r6, SM_7))) = some (if (pLit (rbBy n B) (pWl w) pos).1 = true ∧ rbBy n B (pLit (rbBy n B) (pWl w) pos).2 = 32 then (1, mSI (mSA S 21 (upd (S.2.1 21) c (nI w))) 17 (nI ((pLit (rbBy n B) (pWl w) pos).2 + 1))) else (0, mSI (mSA S 21 (upd (S.2.1 21) c (nI w))) 17 (nI (pLit (rbBy n B) (pWl w) pos).2))) := by
    intro w x hx hw
    subst hx
    rw [m_word hN (hl _) (hm _) hp hw]
    by_cases q : (pLit (rbBy n B) (pWl w) pos).1 = true ∧ rbBy n B (pLit (rbBy n B) (pWl w) pos).2 = 32
    · rw [if_pos q, kD_p, kO_p (Or.inr rfl)]
    · rw [if_neg q, kD_p, kO_p (Or.inl rfl)]
  unfold f_X12_takesHead
  rw [m_next h hp, kC_p]
  simp only [kL_p]
  by_cases c0 : rbBy n B pos = 99
  · rw [kB_p (show mNx n B pos = 99 from (m_nx h (k := 99) (by decide)).mpr c0), kO_p (nI_in hc (by decide)), nI_clamp (by omega), show pWi (rbBy n B pos) = 0 by rw [c0]; rfl]
    exact key 0 0 rfl (by decide)
  · rw [kB_n (show ¬ mNx n B pos = 99 from fun e => c0 ((m_nx h (k := 99) (by decide)).mp e))]
    by_cases c1 : rbBy n B pos = 102
    · rw [kB_p (show mNx n B pos = 102 from (m_nx h (k := 102) (by decide)).mpr c1), kO_p (nI_in hc (by decide)), nI_clamp (by omega), show pWi (rbBy n B pos) = 1 by rw [c1]; rfl]
      exact key 1 4 rfl (by decide)
    · rw [kB_n (show ¬ mNx n B pos = 102 from fun e => c1 ((m_nx h (k := 102) (by decide)).mp e))]
      by_cases c2 : rbBy n B pos = 108
      · rw [kB_p (show mNx n B pos = 108 from (m_nx h (k := 108) (by decide)).mpr c2), kO_p (nI_in hc (by decide)), nI_clamp (by omega), show pWi (rbBy n B pos) = 2 by rw [c2]; rfl]
        exact key 2 8 rfl (by decide)
      · rw [kB_n (show ¬ mNx n B pos = 108 from fun e => c2 ((m_nx h (k := 108) (by decide)).mp e)), kO_p (nI_in hc (by decide)), nI_clamp (by omega), show pWi (rbBy n B pos) = 3 by unfold pWi; rw [if_neg c0, if_neg c1, if_neg c2]]
        exact key 3 12 rfl (by decide)
theorem m_clause (hN : 201 ≤ N) (hL : rbLt S) (h : rbMp n B S pos) (hp : pos ≤ n) (hc : c < 60) (hE : E1 + 100 ≤ 600) (h27 : S.1 27 = nI e0) (he : E1 ≤ e0) (hq : e0 ≤ E1 + pos) : ∃ S', f_X12_takesClause N S (nI c) = some (if (pC (rbBy n B) pos).1 then 1 else 0, S') ∧ S'.1 17 = nI (pC (rbBy n B) pos).2.1 ∧ rbFq S c e0 S' ∧ ((pC (rbBy n B) pos).1 = true → S'.1 27 = nI (e0 + (pC (rbBy n B) pos).2.2.2.2.length) ∧ rbMl S' (e0 + (pC (rbBy n B) pos).2.2.2.2.length) [rbCv (pC (rbBy n B) pos).2.2] c) := by
  have hn := h.1
  have hw := pWi_lt (rbBy n B pos)
  obtain ⟨l1, l2, l3⟩ := pLit_ok (n := n) (B := B) (pWl (pWi (rbBy n B pos))) pos (pWl_lt _) hp
  have ok := pC_ok (B := B) hp
  unfold f_X12_takesClause
  rw [m_head hN hL h hp hc]
  have fA : ∀ p : Nat, rbFq S c e0 (mSI (mSA S 21 (upd (S.2.1 21) c (nI (pWi (rbBy n B pos))))) 17 (nI p)) := by
    intro p
    refine ⟨fun k hk => ?_, fun k hk => ?_, rfl, fun i hi => ⟨?_, rfl, rfl, rfl⟩, fun _ _ => rfl⟩
    · rw [mSI_o _ _ (fun q => hk (by rw [q]; decide))]
      rfl
    · show (mSA S 21 _).2.1 k = _
      rw [mSA_o _ _ (fun q => hk (by rw [q]; decide))]
    · show upd (S.2.1 21) c _ i = _
      rw [pk_un hi]
  by_cases q : (pLit (rbBy n B) (pWl (pWi (rbBy n B pos))) pos).1 = true ∧ rbBy n B (pLit (rbBy n B) (pWl (pWi (rbBy n B pos))) pos).2 = 32
  · have p1 := rbBy_lt (show rbBy n B (pLit (rbBy n B) (pWl (pWi (rbBy n B pos))) pos).2 < 128 by omega)
    have ec : pC (rbBy n B) pos = pC2 (rbBy n B) (pWi (rbBy n B pos)) ((pLit (rbBy n B) (pWl (pWi (rbBy n B pos))) pos).2 + 1) := by
      unfold pC
      rw [if_pos q.1, if_pos q.2]
    rw [ec] at ok ⊢
    rw [if_pos q, kD_p, kB_10]
    have m1 : rbMp n B (mSI (mSA S 21 (upd (S.2.1 21) c (nI (pWi (rbBy n B pos))))) 17 (nI ((pLit (rbBy n B) (pWl (pWi (rbBy n B pos))) pos).2 + 1))) ((pLit (rbBy n B) (pWl (pWi (rbBy n B pos))) pos).2 + 1) := ⟨h.1, h.2.1, mSI_s _ _ _, h.2.2.2⟩
    obtain ⟨S1, u1, u2, u3, u4, u5⟩ := m_number hN m1 p1
    obtain ⟨n1, n2⟩ := pNum_ok (B := B) (show (pLit (rbBy n B) (pWl (pWi (rbBy n B pos))) pos).2 + 1 ≤ n from p1)
    generalize hP : (pLit (rbBy n B) (pWl (pWi (rbBy n B pos))) pos).2 + 1 = P at u1 u2 u3 u4 u5 n1 n2 ok p1 m1 ⊢
    generalize hwi : pWi (rbBy n B pos) = w at u1 u2 u3 u4 u5 ok m1 hw fA ⊢
    have fB : rbFq S c e0 S1 := by
      obtain ⟨f1, f2, f3, f4, f5⟩ := fA P
      refine ⟨fun k hk => (u4 k (fun q => hk (by rw [q]; decide)) (fun q => hk (by rw [q]; decide))).trans (f1 k hk), ?_, ?_, ?_, ?_⟩
      · rw [u5]; exact f2
      · rw [u5]; exact f3
      · rw [u5]; exact f4
      · rw [u5]; exact f5
    rw [u1, kD_p]
    unfold pC2 at ok ⊢
    cases r : (pNum (rbBy n B) P).1 with
    | false =>
      rw [if_neg Bool.false_ne_true, if_neg Bool.false_ne_true, if_neg Bool.false_ne_true, kB_00]
      exact ⟨S1, rfl, u2, fB, fun q => (by cases q)⟩
    | true =>
      obtain ⟨k1, k2, k3⟩ := n1 r
      have s21 : S1.2.1 21 c = nI w := by
        rw [u5]
        show upd (S.2.1 21) c (nI w) c = _
        rw [pk_us]
      have s27 : S1.1 27 = nI e0 := by
        rw [u4 27 (by decide) (by decide), mSI_o _ _ (by decide)]
        exact h27
      have s22 : (mSA S1 22 (upd (S1.2.1 22) c (S1.1 18))).2.1 21 c = nI w := by rw [mSA_o _ _ (by decide), s21]
      have fC : rbFq S c e0 (mSA S1 22 (upd (S1.2.1 22) c (S1.1 18))) := by
        obtain ⟨f1, f2, f3, f4, f5⟩ := fB
        refine ⟨f1, fun k hk => ?_, f3, fun i hi => ?_, f5⟩
        · rw [mSA_o _ _ (fun q => hk (by rw [q]; decide))]
          exact f2 k hk
        · obtain ⟨a, b, d, e⟩ := f4 i hi
          refine ⟨a, ?_, d, e⟩
          show upd (S1.2.1 22) c (S1.1 18) i = _
          rw [pk_un hi]
          exact b
      have z22 : (mSA S1 22 (upd (S1.2.1 22) c (S1.1 18))).2.1 22 c = nI (pNum (rbBy n B) P).2.2 := by
        rw [mSA_s, pk_us, u3 r]
      have z16 : rbMp n B (mSA S1 22 (upd (S1.2.1 22) c (S1.1 18))) (pNum (rbBy n B) P).2.1 := by
        refine ⟨h.1, (fC.1 16 (by decide)).trans h.2.1, u2, fun i hi => ?_⟩
        rw [fC.2.1 19 (by decide)]
        exact h.2.2.2 i hi
      rw [if_pos (rfl : true = true), kB_10, kO_p (nI_in hc (by decide)), nI_clamp (by omega), kL_p, kO_p (rb_in2 hc (by decide)), s22]
      rw [r, if_pos (rfl : true = true)] at ok
      rw [if_pos (rfl : true = true)]
      generalize hS2 : mSA S1 22 (upd (S1.2.1 22) c (S1.1 18)) = S2 at fC z22 z16 s22 ⊢
      have s27 : S2.1 27 = nI e0 := by rw [← hS2]; exact s27
      have s17 : S2.1 17 = nI (pNum (rbBy n B) P).2.1 := by rw [← hS2]; exact u2
      by_cases w2 : 2 ≤ w
      · rw [kB_p (show (2 : Int32) ≤ nI w from nI_le (a := 2) w2 (by omega)), if_pos w2]
        refine ⟨S2, rfl, s17, fC, fun _ => ⟨s27, s22, z22, fun q => ?_, trivial⟩⟩
        exfalso
        rcases q with q | q
        · have := (nI_eq (b := 0) (by omega) (by decide)).mp (show nI w = nI 0 from q)
          omega
        · have := (nI_eq (b := 1) (by omega) (by decide)).mp (show nI w = nI 1 from q)
          omega
      · rw [kB_n (show ¬ (2 : Int32) ≤ nI w from nI_ge (b := 2) (by omega) (by decide)), if_neg w2, show (32 : Int32) = nI 32 from rfl, m_takes z16 k2 (by decide)]
        rw [if_neg w2] at ok
        by_cases c32 : rbBy n B (pNum (rbBy n B) P).2.1 = 32
        · have p2 := rbBy_lt (show rbBy n B (pNum (rbBy n B) P).2.1 < 128 by omega)
          rw [if_pos c32, if_pos c32, kD_p, kB_10]
          have hz : rbMz n B (mSI S2 17 (nI ((pNum (rbBy n B) P).2.1 + 1))) c e0 E1 := ⟨h.1, z16.2.1, z16.2.2.2, hc, he, hE⟩
          have hEok := pE_ok (B := B) (fun p hp => pF_ok (B := B) 4 p hp) (show (pNum (rbBy n B) P).2.1 + 1 ≤ n from p2)
          obtain ⟨S3, v1, v2, v3, v4⟩ := m_takesE (pos := (pNum (rbBy n B) P).2.1 + 1) hN hz (mSI_s _ _ _) (by rw [mSI_o _ _ (by decide)]; exact s27) p2 (by omega)
          have fD : rbFq S c e0 S3 := by
            obtain ⟨f1, f2, f3, f4, f5⟩ := fC
            obtain ⟨g1, g2, g3, g4, g5⟩ := v3
            refine ⟨fun k hk => ?_, fun k hk => ?_, g3.trans f3, fun i hi => ?_, fun i hi => (g5 i hi).trans (f5 i hi)⟩
            · rw [g1 k hk, mSA_1, mSI_o _ _ (fun q => hk (by rw [q]; decide))]
              exact f1 k hk
            · rw [g2 k (fun q => hk (by simp only [List.mem_cons, List.not_mem_nil, or_false] at q ⊢; omega)), mSA_o _ _ (fun q => hk (by rw [q]; decide))]
              exact f2 k hk
            · obtain ⟨a, b, d, e⟩ := f4 i hi
              refine ⟨?_, ?_, ?_, (g4 i hi).trans e⟩
              · rw [g2 21 (by decide)]; exact a
              · rw [g2 22 (by decide)]; exact b
              · rw [g2 23 (by decide), mSA_s, pk_un hi]; exact d
          have j21 : S3.2.1 21 c = nI w := by rw [v3.2.1 21 (by decide)]; exact s22
          have j22 : S3.2.1 22 c = nI (pNum (rbBy n B) P).2.2 := by rw [v3.2.1 22 (by decide)]; exact z22
          have j23 : S3.2.1 23 c = nI e0 := by rw [v3.2.1 23 (by decide), mSA_s, pk_us]
          rw [v1, kD_p]
          cases y : (pE (pF (rbBy n B) 4) (rbBy n B) ((pNum (rbBy n B) P).2.1 + 1)).1 with
          | true =>
            obtain ⟨x1, x2, x3⟩ := v4 y
            obtain ⟨o1, o2, o3, -⟩ := hEok.1 y
            rw [if_pos (rfl : true = true), kB_10]
            exact ⟨S3, rfl, v2, fD, fun _ => ⟨x1, j21, j22, fun _ => ⟨e0, j23, x2, Nat.le_refl _, x3, by show (pE (pF (rbBy n B) 4) (rbBy n B) ((pNum (rbBy n B) P).2.1 + 1)).2.2.length ≤ 100; omega⟩, trivial⟩⟩
          | false =>
            rw [if_neg Bool.false_ne_true, kB_00]
            exact ⟨S3, rfl, v2, fD, fun q => (by cases q)⟩
        · rw [if_neg c32, if_neg c32, kD_p, kB_00]
          exact ⟨S2, rfl, s17, fC, fun q => (by cases q)⟩
  · have ec : pC (rbBy n B) pos = (false, (pLit (rbBy n B) (pWl (pWi (rbBy n B pos))) pos).2, (0, 0, [])) := by
      unfold pC
      by_cases q1 : (pLit (rbBy n B) (pWl (pWi (rbBy n B pos))) pos).1 = true
      · rw [if_pos q1, if_neg (fun q2 => q ⟨q1, q2⟩)]
      · rw [if_neg q1]
    rw [ec, if_neg q, kD_p, kB_00]
    exact ⟨_, rfl, mSI_s _ _ _, fA _, fun q => (by cases q)⟩
end RBMH
