/-! B: the reference's E -/
def rbGo (N c e0 : Nat) (S0 : zMS) (X : Option (Int32 × zMS)) (r : rbPr) (pos m : Nat) (P : zMS → Prop) : Prop := (r.1 = true → ∃ (m' : Nat) (S' : zMS), X = f_X12_takesE_l22 N m' S' (nI c) 0 ∧ m + pos ≤ m' + r.2.1 ∧ P S') ∧ (r.1 = false → ∃ S' : zMS, X = some (0, S') ∧ S'.1 17 = nI r.2.1 ∧ rbFe S0 c e0 S')
def rbHF (N n : Nat) (B : Nat → Nat) (S0 : zMS) (c e0 E1 k : Nat) : Prop := ∀ (pos : Nat) (em : List rbTk) (W : List Nat) (S : zMS) (m : Nat), rbM S0 c e0 S pos em W → pos ≤ n → e0 + em.length + W.length ≤ E1 + pos → rbOp W + k = 4 → n + 2 ≤ m + pos → rbGo N c e0 S0 (f_X12_takesE_l22 N m S (nI c) 1) (pF (rbBy n B) k pos) pos m (fun S' => rbM S0 c e0 S' (pF (rbBy n B) k pos).2.1 (em ++ (pF (rbBy n B) k pos).2.2 ++ rbNots W) (rbStrip W))
def rbTop (W : List Nat) (L : List Nat) : Prop := ∀ w r, W = w :: r → w ∉ L
theorem rbNots_n {W : List Nat} (h : ∀ w r, W = w :: r → w ≠ 33) : rbNots W = [] ∧ rbStrip W = W := by
  cases W with
  | nil => exact ⟨rfl, rfl⟩
  | cons w r =>
    have := h w r rfl
    exact ⟨if_neg this, if_neg this⟩
theorem rbPo_n {q : Nat} {W : List Nat} (h : ∀ w r, W = w :: r → w ≠ 38 ∧ (w = 124 → q = 38)) : rbPo q W = [] ∧ rbPs q W = W := by
  cases W with
  | nil => exact ⟨rfl, rfl⟩
  | cons w r =>
    obtain ⟨h1, h2⟩ := h w r rfl
    show (if w = 38 then (2, 0, 0, 0) :: rbPo q r else if w = 124 then (if q = 38 then [] else (3, 0, 0, 0) :: rbPo q r) else []) = [] ∧ (if w = 38 then rbPs q r else if w = 124 then (if q = 38 then w :: r else rbPs q r) else w :: r) = w :: r
    rw [if_neg h1, if_neg h1]
    by_cases c : w = 124
    · rw [if_pos c, if_pos c, if_pos (h2 c), if_pos (h2 c)]
      exact ⟨rfl, rfl⟩
    · rw [if_neg c, if_neg c]
      exact ⟨rfl, rfl⟩
theorem rbPo_38 {W : List Nat} (h : ∀ w r, W = w :: r → w ≠ 38) {Q : List Nat} (hQ : Q = [] ∨ Q = [38]) : rbPo 38 (Q ++ W) = rbPo 38 Q ∧ rbPs 38 (Q ++ W) = W ∧ (rbPo 38 Q).length = Q.length := by
  obtain ⟨a, b⟩ := rbPo_n (q := 38) (W := W) (fun w r e => ⟨h w r e, fun _ => rfl⟩)
  rcases hQ with rfl | rfl
  · exact ⟨a, b, rfl⟩
  · refine ⟨?_, b, rfl⟩
    show (2, 0, 0, 0) :: rbPo 38 W = _
    rw [a]
    rfl
theorem rbPo_124 {W : List Nat} (h : ∀ w r, W = w :: r → w ≠ 38 ∧ w ≠ 124) {Q : List Nat} (hQ : Q = [] ∨ Q = [38] ∨ Q = [124] ∨ Q = [38, 124]) : rbPo 124 (Q ++ W) = rbPo 124 Q ∧ rbPs 124 (Q ++ W) = W ∧ (rbPo 124 Q).length = Q.length := by
  obtain ⟨a, b⟩ := rbPo_n (q := 124) (W := W) (fun w r e => ⟨(h w r e).1, fun e2 => absurd e2 (h w r e).2⟩)
  rcases hQ with rfl | rfl | rfl | rfl
  · exact ⟨a, b, rfl⟩
  · refine ⟨?_, b, rfl⟩
    show (2, 0, 0, 0) :: rbPo 124 W = _
    rw [a]
    rfl
  · refine ⟨?_, b, rfl⟩
    show (3, 0, 0, 0) :: rbPo 124 W = _
    rw [a]
    rfl
  · refine ⟨?_, b, rfl⟩
    show (2, 0, 0, 0) :: (3, 0, 0, 0) :: rbPo 124 W = _
    rw [a]
    rfl
section RBMF
variable {N n pos c e0 E1 k : Nat} {B : Nat → Nat} {S S0 : zMS} {em : List rbTk} {W : List Nat}
theorem m_b122 (hN : 201 ≤ N) (h0 : rbMz n B S0 c e0 E1) (h : rbM S0 c e0 S pos em W) (hp : pos < n) (hq : e0 + em.length + W.length ≤ E1 + pos) {q : Nat} (h1 : q = 38 ∨ q = 124) (k22 : zMS → Int32 → Int32 → Option (Int32 × zMS)) (x1 : Int32) : ∃ S', f_X12_takesE_b122 N k22 S x1 (nI q) = k22 S' x1 1 ∧ rbM S0 c e0 S' (pos + 1) (em ++ rbPo q W) (q :: rbPs q W) := by
  have hn := h0.1
  have hz := h0.2.2.2.2
  obtain ⟨S1, u1, u2⟩ := m_settle N h0 (show pos ≤ n by omega) h1 W em S N (by omega) h hq
  have hlen : (rbPs q W).length ≤ W.length := by
    clear h hq u2
    induction W with
    | nil => exact Nat.le_refl _
    | cons w r ih =>
      show (if w = 38 then rbPs q r else if w = 124 then (if q = 38 then w :: r else rbPs q r) else w :: r).length ≤ r.length + 1
      split
      · omega
      · split
        · split
          · exact Nat.le_refl _
          · omega
        · exact Nat.le_refl _
  obtain ⟨a, b, d, e, f, g, f1, f2, f3, f4, f5⟩ := u2
  unfold f_X12_takesE_b122 f_X12_settle
  rw [u1, kC_p, d, kO_p (nI_in (by omega) (by decide)), nI_clamp (by omega)]
  simp only [kL_p]
  rw [mSA_1, d, mSI_o _ _ (by decide), mSA_1, a, nI_1, nI_1]
  refine ⟨_, rfl, mSI_s _ _ _, b, ?_, ?_, f, ⟨?_, by omega, ?_⟩, ?_, ?_, f3, f4, f5⟩
  · rw [mSI_o _ _ (by decide), mSI_s]
    rfl
  · rw [mSI_o _ _ (by decide), mSI_o _ _ (by decide), mSA_1, e]
    show _ = nI (rbOp (rbPs q W) + (if q = 33 ∨ q = 40 then 1 else 0))
    rw [if_neg (by omega)]
    rfl
  · show upd (S1.2.1 26) (rbPs q W).length (nI q) (rbPs q W).length = nI q
    rw [pk_us]
  · exact rbSk_u (Nat.le_refl _) g
  · intro k hk
    rw [mSI_o _ _ (fun q => hk (by rw [q]; decide)), mSI_o _ _ (fun q => hk (by rw [q]; decide))]
    exact f1 k hk
  · intro k hk
    show (mSA S1 26 _).2.1 k = _
    rw [mSA_o _ _ (fun q => hk (by rw [q]; decide))]
    exact f2 k hk
theorem m_b43 (h0 : rbMz n B S0 c e0 E1) (h : rbM S0 c e0 S pos em W) (hp : pos < n) (hq : e0 + em.length + W.length ≤ E1 + pos) (ho : rbOp W < 4) {q : Nat} (h1 : q = 33 ∨ q = 40) (k22 : zMS → Int32 → Int32 → Option (Int32 × zMS)) (x1 x2 : Int32) : ∃ S', f_X12_takesE_b43 N k22 S x1 x2 (nI q) = k22 S' x1 x2 ∧ rbM S0 c e0 S' (pos + 1) em (q :: W) := by
  have hn := h0.1
  have hz := h0.2.2.2.2
  obtain ⟨a, b, d, e, f, g, f1, f2, f3, f4, f5⟩ := h
  unfold f_X12_takesE_b43
  rw [e, kB_n (nI_nk (k := 4) (v := 4) (by omega) rfl (by decide) (by omega))]
  simp only [kL_p]
  have i28 : ∀ v, (mSI S 29 v).1 28 = nI W.length := fun v => by rw [mSI_o _ _ (by decide), d]
  rw [i28, kO_p (nI_in (by omega) (by decide)), nI_clamp (by omega), mSA_1, i28, mSI_o _ _ (by decide), mSA_1, mSI_o _ _ (by decide), a, nI_1, nI_1, nI_1]
  refine ⟨_, rfl, mSI_s _ _ _, b, ?_, ?_, f, ⟨?_, by omega, ?_⟩, ?_, ?_, f3, f4, f5⟩
  · rw [mSI_o _ _ (by decide), mSI_s]
    rfl
  · rw [mSI_o _ _ (by decide), mSI_o _ _ (by decide), mSA_1, mSI_s]
    show _ = nI (rbOp W + (if q = 33 ∨ q = 40 then 1 else 0))
    rw [if_pos h1]
  · show upd (S.2.1 26) W.length (nI q) W.length = nI q
    rw [pk_us]
  · exact rbSk_u (Nat.le_refl _) g
  · intro k hk
    rw [mSI_o _ _ (fun q => hk (by rw [q]; decide)), mSI_o _ _ (fun q => hk (by rw [q]; decide))]
    show (mSI S 29 _).1 k = _
    rw [mSI_o _ _ (fun q => hk (by rw [q]; decide))]
    exact f1 k hk
  · intro k hk
    show (mSA S 26 _).2.1 k = _
    rw [mSA_o _ _ (fun q => hk (by rw [q]; decide))]
    exact f2 k hk
theorem m_lt (hN : 201 ≤ N) (h0 : rbMz n B S0 c e0 E1) (h : rbM S0 c e0 S pos em W) (hp : pos ≤ n) (hq : e0 + em.length + W.length ≤ E1 + pos) (h33 : ¬ rbBy n B pos = 33) (h40 : ¬ rbBy n B pos = 40) (m : Nat) : rbGo N c e0 S0 (f_X12_takesE_l22 N (m + 1) S (nI c) 1) (pTest (rbBy n B) pos) pos (m + 1) (fun S' => rbM S0 c e0 S' (pTest (rbBy n B) pos).2.1 (em ++ (pTest (rbBy n B) pos).2.2 ++ rbNots W) (rbStrip W)) := by
  have hmp := h.p h0
  obtain ⟨S1, u1, u2, u3, u4⟩ := m_test hN h0 h hp hq
  have ok := pTest_ok (B := B) hp
  rw [s_X12_takesE_l22]
  show rbGo N c e0 S0 (kC _ _) _ _ _ _
  rw [m_next hmp hp, kC_p, kB_10, kB_n (show ¬ mNx n B pos = 33 from fun e => h33 ((m_nx hmp (k := 33) (by decide)).mp e)), kB_n (show ¬ mNx n B pos = 40 from fun e => h40 ((m_nx hmp (k := 40) (by decide)).mp e)), u1, kD_p]
  refine ⟨fun q => ?_, fun q => ?_⟩
  · rw [if_pos q, kB_10]
    exact ⟨m, S1, rfl, by have := (ok.1 q).1; omega, u4 q⟩
  · rw [if_neg (by rw [q]; exact Bool.false_ne_true), kB_00]
    exact ⟨S1, rfl, u2, u3⟩
theorem m_lp (h0 : rbMz n B S0 c e0 E1) (h : rbM S0 c e0 S pos em W) (hp : pos < n) (hq : e0 + em.length + W.length ≤ E1 + pos) (ho : rbOp W < 4) {q : Nat} (h1 : q = 33 ∨ q = 40) (hb : rbBy n B pos = q) (m : Nat) : ∃ S', f_X12_takesE_l22 N (m + 1) S (nI c) 1 = f_X12_takesE_l22 N m S' (nI c) 1 ∧ rbM S0 c e0 S' (pos + 1) em (q :: W) := by
  have hmp := h.p h0
  have e5 : mNx n B pos = nI q := (m_nx hmp (by omega)).mpr hb
  obtain ⟨S1, u1, u2⟩ := m_b43 (N := N) h0 h hp hq ho h1 (f_X12_takesE_l22 N m) (nI c) 1
  refine ⟨S1, ?_, u2⟩
  rw [s_X12_takesE_l22]
  show kC _ _ = _
  rw [m_next hmp (by omega), kC_p, kB_10, e5, u1]
  rcases h1 with rfl | rfl
  · rw [kB_p (show nI 33 = (33 : Int32) from rfl)]
  · rw [kB_n (by decide), kB_p (show nI 40 = (40 : Int32) from rfl)]
theorem m_l0 (hN : 201 ≤ N) (h0 : rbMz n B S0 c e0 E1) (h : rbM S0 c e0 S pos em W) (hp : pos < n) (hq : e0 + em.length + W.length ≤ E1 + pos) {q : Nat} (h1 : q = 38 ∨ q = 124) (hb : rbBy n B pos = q) (m : Nat) : ∃ S', f_X12_takesE_l22 N (m + 1) S (nI c) 0 = f_X12_takesE_l22 N m S' (nI c) 1 ∧ rbM S0 c e0 S' (pos + 1) (em ++ rbPo q W) (q :: rbPs q W) := by
  have hmp := h.p h0
  have e5 : mNx n B pos = nI q := (m_nx hmp (by omega)).mpr hb
  obtain ⟨S1, u1, u2⟩ := m_b122 hN h0 h hp hq h1 (f_X12_takesE_l22 N m) (nI c)
  refine ⟨S1, ?_, u2⟩
  rw [s_X12_takesE_l22]
  show kC _ _ = _
  rw [m_next hmp (by omega), kC_p, kB_00, e5, u1]
  rcases h1 with rfl | rfl
  · rw [kB_p (show nI 38 = (38 : Int32) from rfl)]
  · rw [kB_n (by decide), kB_p (show nI 124 = (124 : Int32) from rfl)]
theorem m_Tl (hN : 201 ≤ N) (h0 : rbMz n B S0 c e0 E1) (HF : rbHF N n B S0 c e0 E1 k) (hW : ∀ w r, W = w :: r → w ≠ 38 ∧ w ≠ 33) (hk : rbOp W + k = 4) : ∀ (f pos : Nat) (ts em' : List rbTk) (Q : List Nat) (S : zMS) (m : Nat), rbM S0 c e0 S pos em' (Q ++ W) → (Q = [] ∨ Q = [38]) → em' ++ rbPo 38 Q = em ++ ts → pos ≤ n → e0 + em.length + ts.length + W.length ≤ E1 + pos → n ≤ pos + f → n + 2 ≤ m + pos → rbGo N c e0 S0 (f_X12_takesE_l22 N m S (nI c) 0) (pTl (pF (rbBy n B) k) (rbBy n B) f pos ts) pos m (fun S' => ∃ (Q : List Nat) (em' : List rbTk), (Q = [] ∨ Q = [38]) ∧ rbM S0 c e0 S' (pTl (pF (rbBy n B) k) (rbBy n B) f pos ts).2.1 em' (Q ++ W) ∧ em' ++ rbPo 38 Q = em ++ (pTl (pF (rbBy n B) k) (rbBy n B) f pos ts).2.2 ∧ ¬ rbBy n B (pTl (pF (rbBy n B) k) (rbBy n B) f pos ts).2.1 = 38)
  | 0, pos, ts, em', Q, S, m, h, hQ, he, hp, hq, hf, hm => by
    have : ¬ rbBy n B pos = 38 := fun e => by have := rbBy_lt (show rbBy n B pos < 128 by omega); omega
    exact ⟨fun _ => ⟨m, S, rfl, Nat.le_refl _, Q, em', hQ, h, he, this⟩, fun q => (by cases q)⟩
  | f + 1, pos, ts, em', Q, S, m, h, hQ, he, hp, hq, hf, hm => by
    have e1 : pTl (pF (rbBy n B) k) (rbBy n B) (f + 1) pos ts = if rbBy n B pos = 38 then (if (pF (rbBy n B) k (pos + 1)).1 then pTl (pF (rbBy n B) k) (rbBy n B) f (pF (rbBy n B) k (pos + 1)).2.1 (ts ++ (pF (rbBy n B) k (pos + 1)).2.2 ++ [(2, 0, 0, 0)]) else (false, (pF (rbBy n B) k (pos + 1)).2.1, [])) else (true, pos, ts) := rfl
    rw [e1]
    by_cases d : rbBy n B pos = 38
    · have p1 := rbBy_lt (show rbBy n B pos < 128 by omega)
      obtain ⟨z1, z2, z3⟩ := rbPo_38 (fun w r e => (hW w r e).1) hQ
      have hlen := congrArg List.length he
      rw [List.length_append, List.length_append, z3] at hlen
      obtain ⟨m, rfl⟩ : ∃ m', m = m' + 1 := ⟨m - 1, by omega⟩
      obtain ⟨S1, u1, u2⟩ := m_l0 hN h0 h p1 (by rw [List.length_append]; omega) (Or.inl rfl) d m
      rw [z1, z2, he] at u2
      obtain ⟨n1, n2⟩ := rbNots_n (W := 38 :: W) (fun w r e => by cases e; decide)
      have o38 : rbOp (38 :: W) = rbOp W := rfl
      obtain ⟨v1, v2⟩ := HF (pos + 1) (em ++ ts) (38 :: W) S1 m u2 p1 (by rw [List.length_append]; show e0 + (em.length + ts.length) + (W.length + 1) ≤ _; omega) (by rw [o38]; exact hk) (by omega)
      rw [n1, n2] at v1
      have ok := pF_ok (B := B) k (pos + 1) p1
      rw [if_pos d, u1]
      cases q : (pF (rbBy n B) k (pos + 1)).1 with
      | true =>
        obtain ⟨m2, S2, w1, w2, w3⟩ := v1 q
        obtain ⟨k1, k2, k3, -⟩ := ok.1 q
        rw [if_pos (rfl : true = true), w1]
        have w3 : rbM S0 c e0 S2 (pF (rbBy n B) k (pos + 1)).2.1 (em ++ ts ++ (pF (rbBy n B) k (pos + 1)).2.2) ([38] ++ W) := by
          rw [List.append_nil] at w3
          exact w3
        obtain ⟨x1, x2⟩ := m_Tl hN h0 HF hW hk f _ (ts ++ (pF (rbBy n B) k (pos + 1)).2.2 ++ [(2, 0, 0, 0)]) _ [38] S2 m2 w3 (Or.inr rfl) (by rw [List.append_assoc, List.append_assoc, List.append_assoc]; rfl) k2 (by rw [List.length_append, List.length_append]; show _ + (_ + 1) + _ ≤ _; omega) (by omega) (by omega)
        refine ⟨fun q => ?_, fun q => x2 q⟩
        obtain ⟨m3, S3, y1, y2, y3⟩ := x1 q
        exact ⟨m3, S3, y1, by omega, y3⟩
      | false =>
        rw [if_neg Bool.false_ne_true]
        obtain ⟨S2, w1, w2, w3⟩ := v2 q
        exact ⟨fun q => (by cases q), fun _ => ⟨S2, w1, w2, w3⟩⟩
    · rw [if_neg d]
      exact ⟨fun _ => ⟨m, S, rfl, Nat.le_refl _, Q, em', hQ, h, he, d⟩, fun q => (by cases q)⟩
theorem m_T (hN : 201 ≤ N) (h0 : rbMz n B S0 c e0 E1) (HF : rbHF N n B S0 c e0 E1 k) (hW : ∀ w r, W = w :: r → w ≠ 38 ∧ w ≠ 33) (hk : rbOp W + k = 4) (h : rbM S0 c e0 S pos em W) (hp : pos ≤ n) (hq : e0 + em.length + W.length ≤ E1 + pos) {m : Nat} (hm : n + 2 ≤ m + pos) : rbGo N c e0 S0 (f_X12_takesE_l22 N m S (nI c) 1) (pT (pF (rbBy n B) k) (rbBy n B) pos) pos m (fun S' => ∃ (Q : List Nat) (em' : List rbTk), (Q = [] ∨ Q = [38]) ∧ rbM S0 c e0 S' (pT (pF (rbBy n B) k) (rbBy n B) pos).2.1 em' (Q ++ W) ∧ em' ++ rbPo 38 Q = em ++ (pT (pF (rbBy n B) k) (rbBy n B) pos).2.2 ∧ ¬ rbBy n B (pT (pF (rbBy n B) k) (rbBy n B) pos).2.1 = 38) := by
  have hn := h0.1
  obtain ⟨n1, n2⟩ := rbNots_n (W := W) (fun w r e => (hW w r e).2)
  obtain ⟨v1, v2⟩ := HF pos em W S m h hp hq hk hm
  rw [n1, n2] at v1
  have ok := pF_ok (B := B) k pos hp
  unfold pT
  cases q : (pF (rbBy n B) k pos).1 with
  | true =>
    obtain ⟨m2, S2, w1, w2, w3⟩ := v1 q
    obtain ⟨k1, k2, k3, -⟩ := ok.1 q
    rw [if_pos (rfl : true = true), w1]
    rw [List.append_nil] at w3
    obtain ⟨x1, x2⟩ := m_Tl hN h0 HF hW hk 100 _ (pF (rbBy n B) k pos).2.2 _ [] S2 m2 w3 (Or.inl rfl) (List.append_nil _) k2 (by omega) (by omega) (by omega)
    refine ⟨fun q => ?_, fun q => x2 q⟩
    obtain ⟨m3, S3, y1, y2, y3⟩ := x1 q
    exact ⟨m3, S3, y1, by omega, y3⟩
  | false =>
    rw [if_neg Bool.false_ne_true]
    obtain ⟨S2, w1, w2, w3⟩ := v2 q
    exact ⟨fun q => (by cases q), fun _ => ⟨S2, w1, w2, w3⟩⟩
theorem m_El (hN : 201 ≤ N) (h0 : rbMz n B S0 c e0 E1) (HF : rbHF N n B S0 c e0 E1 k) (hW : ∀ w r, W = w :: r → w ≠ 38 ∧ w ≠ 124) (hk : rbOp W + k = 4) : ∀ (f pos : Nat) (ts em' : List rbTk) (Q : List Nat) (S : zMS) (m : Nat), rbM S0 c e0 S pos em' (Q ++ W) → (Q = [] ∨ Q = [38] ∨ Q = [124] ∨ Q = [38, 124]) → em' ++ rbPo 124 Q = em ++ ts → ¬ rbBy n B pos = 38 → pos ≤ n → e0 + em.length + ts.length + W.length ≤ E1 + pos → n ≤ pos + f → n + 2 ≤ m + pos → rbGo N c e0 S0 (f_X12_takesE_l22 N m S (nI c) 0) (pEl (pF (rbBy n B) k) (rbBy n B) f pos ts) pos m (fun S' => ∃ (Q : List Nat) (em' : List rbTk), (Q = [] ∨ Q = [38] ∨ Q = [124] ∨ Q = [38, 124]) ∧ rbM S0 c e0 S' (pEl (pF (rbBy n B) k) (rbBy n B) f pos ts).2.1 em' (Q ++ W) ∧ em' ++ rbPo 124 Q = em ++ (pEl (pF (rbBy n B) k) (rbBy n B) f pos ts).2.2 ∧ ¬ rbBy n B (pEl (pF (rbBy n B) k) (rbBy n B) f pos ts).2.1 = 38 ∧ ¬ rbBy n B (pEl (pF (rbBy n B) k) (rbBy n B) f pos ts).2.1 = 124)
  | 0, pos, ts, em', Q, S, m, h, hQ, he, h38, hp, hq, hf, hm => by
    have : ¬ rbBy n B pos = 124 := fun e => by have := rbBy_lt (show rbBy n B pos < 128 by omega); omega
    exact ⟨fun _ => ⟨m, S, rfl, Nat.le_refl _, Q, em', hQ, h, he, h38, this⟩, fun q => (by cases q)⟩
  | f + 1, pos, ts, em', Q, S, m, h, hQ, he, h38, hp, hq, hf, hm => by
    have e1 : pEl (pF (rbBy n B) k) (rbBy n B) (f + 1) pos ts = if rbBy n B pos = 124 then (if (pT (pF (rbBy n B) k) (rbBy n B) (pos + 1)).1 then pEl (pF (rbBy n B) k) (rbBy n B) f (pT (pF (rbBy n B) k) (rbBy n B) (pos + 1)).2.1 (ts ++ (pT (pF (rbBy n B) k) (rbBy n B) (pos + 1)).2.2 ++ [(3, 0, 0, 0)]) else (false, (pT (pF (rbBy n B) k) (rbBy n B) (pos + 1)).2.1, [])) else (true, pos, ts) := rfl
    rw [e1]
    by_cases d : rbBy n B pos = 124
    · have p1 := rbBy_lt (show rbBy n B pos < 128 by omega)
      obtain ⟨z1, z2, z3⟩ := rbPo_124 hW hQ
      have hlen := congrArg List.length he
      rw [List.length_append, List.length_append, z3] at hlen
      obtain ⟨m, rfl⟩ : ∃ m', m = m' + 1 := ⟨m - 1, by omega⟩
      obtain ⟨S1, u1, u2⟩ := m_l0 hN h0 h p1 (by rw [List.length_append]; omega) (Or.inr rfl) d m
      rw [z1, z2, he] at u2
      have o124 : rbOp (124 :: W) = rbOp W := rfl
      obtain ⟨v1, v2⟩ := m_T (pos := pos + 1) (em := em ++ ts) (W := 124 :: W) (S := S1) (m := m) hN h0 HF (fun w r e => by cases e; decide) (by rw [o124]; exact hk) u2 p1 (by rw [List.length_append]; show e0 + (em.length + ts.length) + (W.length + 1) ≤ _; omega) (by omega)
      have ok := pT_ok (B := B) (fun p hp => pF_ok (B := B) k p hp) (show pos + 1 ≤ n from p1)
      rw [if_pos d, u1]
      cases q : (pT (pF (rbBy n B) k) (rbBy n B) (pos + 1)).1 with
      | true =>
        obtain ⟨m2, S2, w1, w2, Q2, em2, w3, w4, w5, w6⟩ := v1 q
        obtain ⟨k1, k2, k3, -⟩ := ok.1 q
        rw [if_pos (rfl : true = true), w1]
        have w4 : rbM S0 c e0 S2 (pT (pF (rbBy n B) k) (rbBy n B) (pos + 1)).2.1 em2 (Q2 ++ [124] ++ W) := by
          rw [List.append_assoc]
          exact w4
        have w7 : rbPo 124 (Q2 ++ [124]) = rbPo 38 Q2 ++ [(3, 0, 0, 0)] := by
          rcases w3 with rfl | rfl <;> rfl
        obtain ⟨x1, x2⟩ := m_El hN h0 HF hW hk f _ (ts ++ (pT (pF (rbBy n B) k) (rbBy n B) (pos + 1)).2.2 ++ [(3, 0, 0, 0)]) _ (Q2 ++ [124]) S2 m2 w4 (by rcases w3 with rfl | rfl <;> simp) (by rw [w7, ← List.append_assoc, w5, List.append_assoc, List.append_assoc, List.append_assoc]) w6 k2 (by rw [List.length_append, List.length_append]; show _ + (_ + 1) + _ ≤ _; omega) (by omega) (by omega)
        refine ⟨fun q => ?_, fun q => x2 q⟩
        obtain ⟨m3, S3, y1, y2, y3⟩ := x1 q
        exact ⟨m3, S3, y1, by omega, y3⟩
      | false =>
        rw [if_neg Bool.false_ne_true]
        obtain ⟨S2, w1, w2, w3⟩ := v2 q
        exact ⟨fun q => (by cases q), fun _ => ⟨S2, w1, w2, w3⟩⟩
    · rw [if_neg d]
      exact ⟨fun _ => ⟨m, S, rfl, Nat.le_refl _, Q, em', hQ, h, he, h38, d⟩, fun q => (by cases q)⟩
theorem m_E (hN : 201 ≤ N) (h0 : rbMz n B S0 c e0 E1) (HF : rbHF N n B S0 c e0 E1 k) (hW : ∀ w r, W = w :: r → w ≠ 38 ∧ w ≠ 124 ∧ w ≠ 33) (hk : rbOp W + k = 4) (h : rbM S0 c e0 S pos em W) (hp : pos ≤ n) (hq : e0 + em.length + W.length ≤ E1 + pos) {m : Nat} (hm : n + 2 ≤ m + pos) : rbGo N c e0 S0 (f_X12_takesE_l22 N m S (nI c) 1) (pE (pF (rbBy n B) k) (rbBy n B) pos) pos m (fun S' => ∃ (Q : List Nat) (em' : List rbTk), (Q = [] ∨ Q = [38] ∨ Q = [124] ∨ Q = [38, 124]) ∧ rbM S0 c e0 S' (pE (pF (rbBy n B) k) (rbBy n B) pos).2.1 em' (Q ++ W) ∧ em' ++ rbPo 124 Q = em ++ (pE (pF (rbBy n B) k) (rbBy n B) pos).2.2 ∧ ¬ rbBy n B (pE (pF (rbBy n B) k) (rbBy n B) pos).2.1 = 38 ∧ ¬ rbBy n B (pE (pF (rbBy n B) k) (rbBy n B) pos).2.1 = 124) := by
  have hn := h0.1
  obtain ⟨v1, v2⟩ := m_T hN h0 HF (fun w r e => ⟨(hW w r e).1, (hW w r e).2.2⟩) hk h hp hq hm
  have ok := pT_ok (B := B) (fun p hp => pF_ok (B := B) k p hp) hp
  unfold pE
  cases q : (pT (pF (rbBy n B) k) (rbBy n B) pos).1 with
  | true =>
    obtain ⟨m2, S2, w1, w2, Q2, em2, w3, w4, w5, w6⟩ := v1 q
    obtain ⟨k1, k2, k3, -⟩ := ok.1 q
    rw [if_pos (rfl : true = true), w1]
    have w7 : rbPo 124 Q2 = rbPo 38 Q2 := by
      rcases w3 with rfl | rfl <;> rfl
    obtain ⟨x1, x2⟩ := m_El hN h0 HF (fun w r e => ⟨(hW w r e).1, (hW w r e).2.1⟩) hk 100 _ (pT (pF (rbBy n B) k) (rbBy n B) pos).2.2 _ Q2 S2 m2 w4 (by rcases w3 with rfl | rfl <;> simp) (by rw [w7]; exact w5) w6 k2 (by omega) (by omega) (by omega)
    refine ⟨fun q => ?_, fun q => x2 q⟩
    obtain ⟨m3, S3, y1, y2, y3⟩ := x1 q
    exact ⟨m3, S3, y1, by omega, y3⟩
  | false =>
    rw [if_neg Bool.false_ne_true]
    obtain ⟨S2, w1, w2, w3⟩ := v2 q
    exact ⟨fun q => (by cases q), fun _ => ⟨S2, w1, w2, w3⟩⟩
end RBMF
