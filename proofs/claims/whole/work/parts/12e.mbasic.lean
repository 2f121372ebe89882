/-! B: the reference reads -/
def rbMp (n : Nat) (B : Nat → Nat) (S : zMS) (pos : Nat) : Prop := n ≤ 100 ∧ S.1 16 = nI n ∧ S.1 17 = nI pos ∧ ∀ i : Nat, i < n → S.2.1 19 i = nI (B i) ∧ B i < 128
def mNx (n : Nat) (B : Nat → Nat) (pos : Nat) : Int32 := if pos < n then nI (B pos) else -1
theorem rb_m1 {k : Nat} (h : k < 2 ^ 31) : (-1 : Int32) < nI k ∧ ¬ (-1 : Int32) = nI k := by
  have e : (-1 : Int32).toInt = -1 := by decide
  refine ⟨?_, fun h2 => ?_⟩
  · rw [Int32.lt_iff_toInt_lt, nI_toInt h, e]
    omega
  · have := congrArg Int32.toInt h2
    rw [nI_toInt h, e] at this
    omega
theorem nI_nk {w k : Nat} {v : Int32} (hw : w < 128) (hv : v = nI k) (hk : k < 128) (h : ¬ w = k) : ¬ nI w = v := by
  subst hv
  exact fun e => h ((nI_eq (by omega) (by omega)).mp e)
theorem m_placeD : ∀ c : Nat, c < 128 → kB (nI c = 99) (some (3 : Int32)) (kB (nI c = 100) (some ((-1))) (kB (nI c = 101) (some ((-1))) (kB (nI c = 102) (some ((-1))) (kB (nI c = 103) (some ((-1))) (kB (nI c = 104) (some (5)) (kB (nI c = 105) (some ((-1))) (kB (nI c = 106) (some ((-1))) (kB (nI c = 107) (some (1)) (kB (nI c = 108) (some ((-1))) (kB (nI c = 109) (some ((-1))) (kB (nI c = 110) (some (4)) (kB (nI c = 111) (some ((-1))) (kB (nI c = 112) (some (0)) (kB (nI c = 113) (some ((-1))) (kB (nI c = 114) (some ((-1))) (kB (nI c = 115) (some ((-1))) (kB (nI c = 116) (some (2)) (some ((-1)))))))))))))))))))) = some (rbIv 2 c) := by decide +kernel
def rbOp : List Nat → Nat
  | [] => 0
  | c :: r => rbOp r + (if c = 33 ∨ c = 40 then 1 else 0)
def rbSk (g : Nat → Int32) : List Nat → Prop
  | [] => True
  | c :: r => g r.length = nI c ∧ c < 128 ∧ rbSk g r
theorem rbSk_u {g : Nat → Int32} {x : Int32} {k : Nat} : ∀ {W : List Nat}, W.length ≤ k → rbSk g W → rbSk (upd g k x) W
  | [], _, _ => trivial
  | c :: r, h, p => by
    have h : r.length + 1 ≤ k := h
    refine ⟨?_, p.2.1, rbSk_u (by omega) p.2.2⟩
    rw [pk_un (by omega)]
    exact p.1
def rbNots : List Nat → List rbTk
  | [] => []
  | c :: r => if c = 33 then (1, 0, 0, 0) :: rbNots r else []
def rbStrip : List Nat → List Nat
  | [] => []
  | c :: r => if c = 33 then rbStrip r else c :: r
def rbPo (q : Nat) : List Nat → List rbTk
  | [] => []
  | c :: r => if c = 38 then (2, 0, 0, 0) :: rbPo q r else if c = 124 then (if q = 38 then [] else (3, 0, 0, 0) :: rbPo q r) else []
def rbPs (q : Nat) : List Nat → List Nat
  | [] => []
  | c :: r => if c = 38 then rbPs q r else if c = 124 then (if q = 38 then c :: r else rbPs q r) else c :: r
def rbFe (S0 : zMS) (c e0 : Nat) (S : zMS) : Prop := (∀ k : Nat, k ∉ ([17, 18, 27, 28, 29] : List Nat) → S.1 k = S0.1 k) ∧ (∀ k : Nat, k ∉ ([24, 25, 26] : List Nat) → S.2.1 k = S0.2.1 k) ∧ S.2.2 = S0.2.2 ∧ (∀ i : Nat, i ≠ c → S.2.1 24 i = S0.2.1 24 i) ∧ ∀ i : Nat, i < e0 → S.2.1 25 i = S0.2.1 25 i
def rbMz (n : Nat) (B : Nat → Nat) (S0 : zMS) (c e0 E1 : Nat) : Prop := n ≤ 100 ∧ S0.1 16 = nI n ∧ (∀ i : Nat, i < n → S0.2.1 19 i = nI (B i) ∧ B i < 128) ∧ c < 60 ∧ E1 ≤ e0 ∧ E1 + 100 ≤ 600
def rbM (S0 : zMS) (c e0 : Nat) (S : zMS) (pos : Nat) (em : List rbTk) (W : List Nat) : Prop := S.1 17 = nI pos ∧ S.1 27 = nI (e0 + em.length) ∧ S.1 28 = nI W.length ∧ S.1 29 = nI (rbOp W) ∧ rbAt (S.2.1 25) rbEM e0 em ∧ rbSk (S.2.1 26) W ∧ rbFe S0 c e0 S
section RBME
variable {N n pos c e0 E1 : Nat} {B : Nat → Nat} {S S0 : zMS} {em : List rbTk} {W : List Nat}
theorem rbFe.i {v : Int32} {k : Nat} (hk : k ∈ ([17, 18, 27, 28, 29] : List Nat)) (h : rbFe S0 c e0 S) : rbFe S0 c e0 (mSI S k v) := ⟨fun j hj => (mSI_o S v (fun e => hj (by rw [e]; exact hk))).trans (h.1 j hj), h.2⟩
theorem rbM.p (h0 : rbMz n B S0 c e0 E1) (h : rbM S0 c e0 S pos em W) : rbMp n B S pos := by
  obtain ⟨a, -, -, -, -, -, f1, f2, -⟩ := h
  exact ⟨h0.1, (f1 16 (by decide)).trans h0.2.1, a, fun i hi => by rw [f2 19 (by decide)]; exact h0.2.2.1 i hi⟩
theorem rbMp.go (h : rbMp n B S pos) {p2 : Nat} : rbMp n B (mSI S 17 (nI p2)) p2 := ⟨h.1, h.2.1, mSI_s _ _ _, h.2.2.2⟩
theorem m_next (h : rbMp n B S pos) (hp : pos ≤ n) : f_X12_next S = some (mNx n B pos) := by
  obtain ⟨a, b, c, d⟩ := h
  unfold f_X12_next mNx
  rw [b, c]
  by_cases q : pos < n
  · rw [kB_n (nI_ge q (by omega)), kO_p (nI_in (by omega) (by decide)), nI_clamp (by omega), (d pos q).1, if_pos q]
  · rw [kB_p (nI_le (by omega) (by omega)), if_neg q]
theorem m_nx (h : rbMp n B S pos) {k : Nat} (hk : k < 128) : mNx n B pos = nI k ↔ rbBy n B pos = k := by
  unfold mNx rbBy
  by_cases q : pos < n
  · have := (h.2.2.2 pos q).2
    rw [if_pos q, if_pos q]
    exact nI_eq (by omega) (by omega)
  · rw [if_neg q, if_neg q]
    exact ⟨fun e => absurd e (rb_m1 (by omega)).2, fun e => by omega⟩
theorem m_takes (h : rbMp n B S pos) (hp : pos ≤ n) {k : Nat} (hk : k < 128) : f_X12_takes S (nI k) = some (if rbBy n B pos = k then (1, mSI S 17 (nI (pos + 1))) else (0, S)) := by
  unfold f_X12_takes
  rw [m_next h hp, kC_p, h.2.2.1]
  by_cases q : rbBy n B pos = k
  · rw [kB_p ((m_nx h hk).mpr q), if_pos q, kL_p, kL_p, nI_1]
  · rw [kB_n (fun e => q ((m_nx h hk).mp e)), if_neg q]
theorem m_in (h : rbMp n B S pos) (S' : zMS) {lo hi : Nat} (hl : lo < 128) (hh : hi < 128) : f_X12_in S' (mNx n B pos) (nI lo) (nI hi) = some (if lo ≤ rbBy n B pos ∧ rbBy n B pos ≤ hi then 1 else 0) := by
  unfold f_X12_in mNx rbBy
  by_cases q : pos < n
  · have := (h.2.2.2 pos q).2
    rw [if_pos q, if_pos q]
    by_cases a : B pos < lo
    · rw [kB_p (nI_lt a (by omega)), if_neg (by omega)]
    · rw [kB_n (nI_nlt (by omega) (by omega))]
      by_cases b : hi < B pos
      · rw [kB_p (nI_lt b (by omega)), if_neg (by omega)]
      · rw [kB_n (nI_nlt (by omega) (by omega)), if_pos (by omega)]
  · rw [if_neg q, if_neg q, kB_p (rb_m1 (by omega)).1, if_neg (by omega)]
theorem m_digit (h : rbMp n B S pos) (hp : pos ≤ n) : f_X12_isDigit S = some (if 48 ≤ rbBy n B pos ∧ rbBy n B pos ≤ 57 then 1 else 0) := by
  unfold f_X12_isDigit
  have := m_in h S (lo := 48) (hi := 57) (by decide) (by decide)
  rw [m_next h hp, kC_p, show f_X12_in S (mNx n B pos) 48 57 = _ from this, kC_p]
  by_cases q : 48 ≤ rbBy n B pos ∧ rbBy n B pos ≤ 57
  · rw [if_pos q, kO_p (Or.inr rfl)]
  · rw [if_neg q, kO_p (Or.inl rfl)]
theorem m_dig (h : rbMp n B S pos) (v d : Nat) (hd : rbBy n B pos = 48 + d) (h9 : d ≤ 9) : (10 : Int32) * nI v + mNx n B pos - 48 = nI (10 * v + d) := by
  have h1 : mNx n B pos = nI (48 + d) := (m_nx h (by omega)).mpr hd
  rw [h1, ← nI_add 48 d, ← nI_add (10 * v) d, ← pk_mul]
  have e1 : nI 48 = (48 : Int32) := rfl
  have e2 : nI 10 = (10 : Int32) := rfl
  rw [e1, e2]
  grind
theorem m_nst (h : rbMp n B S pos) (hp : pos ≤ n) {v x : Nat} (hv : S.1 18 = nI v) (hx : x < 2) (hc : 48 ≤ rbBy n B pos ∧ rbBy n B pos ≤ 57) (m : Nat) : f_X12_takesNumber_l16 N (m + 1) S (nI x) = f_X12_takesNumber_l16 N m (mSI (mSI S 18 (nI (10 * v + (rbBy n B pos - 48)))) 17 (nI (pos + 1))) (nI (x + 1)) := by
  rw [s_X12_takesNumber_l16]
  show kB _ _ _ = _
  rw [kB_n (show ¬ (2 : Int32) ≤ nI x from nI_ge (b := 2) hx (by decide)), m_digit h hp, kC_p, if_pos hc, kB_10]
  simp only [kL_p]
  rw [m_next h hp, kC_p, hv, m_dig h v (rbBy n B pos - 48) (by omega) (by omega), mSI_o _ _ (by decide), h.2.2.1, nI_1, nI_1]
theorem m_nse (h : rbMp n B S pos) (hp : pos ≤ n) {x : Nat} (hx : x = 2 ∨ (x < 2 ∧ ¬ (48 ≤ rbBy n B pos ∧ rbBy n B pos ≤ 57))) (m : Nat) : f_X12_takesNumber_l16 N (m + 1) S (nI x) = some (1, S) := by
  rw [s_X12_takesNumber_l16]
  show kB _ _ _ = _
  rcases hx with rfl | ⟨hx, hc⟩
  · rw [kB_p (by decide)]
  · rw [kB_n (show ¬ (2 : Int32) ≤ nI x from nI_ge (b := 2) hx (by decide)), m_digit h hp, kC_p, if_neg hc, kB_00]
theorem m_number (hN : 201 ≤ N) (h : rbMp n B S pos) (hp : pos ≤ n) : ∃ S', f_X12_takesNumber N S = some (if (pNum (rbBy n B) pos).1 then 1 else 0, S') ∧ S'.1 17 = nI (pNum (rbBy n B) pos).2.1 ∧ ((pNum (rbBy n B) pos).1 = true → S'.1 18 = nI (pNum (rbBy n B) pos).2.2) ∧ (∀ k : Nat, k ≠ 17 → k ≠ 18 → S'.1 k = S.1 k) ∧ S'.2 = S.2 := by
  unfold f_X12_takesNumber pNum
  rw [m_digit h hp, kC_p]
  by_cases c1 : 48 ≤ rbBy n B pos ∧ rbBy n B pos ≤ 57
  · have p1 := rbBy_lt (show rbBy n B pos < 128 by omega)
    obtain ⟨M, rfl⟩ : ∃ M, N = M + 1 + 1 + 1 := ⟨N - 3, by omega⟩
    have h1 : rbMp n B (mSI S 18 0) pos := ⟨h.1, h.2.1, h.2.2.1, h.2.2.2⟩
    have a1 := m_nst (N := M + 1 + 1 + 1) h1 hp (v := 0) (x := 0) (mSI_s _ _ _) (by decide) c1 (M + 1 + 1)
    rw [if_pos c1, if_pos c1, kB_10, kL_p, show (0 : Int32) = nI 0 from rfl]
    rw [show nI 0 = (0 : Int32) from rfl] at a1 ⊢
    rw [a1]
    have h2 : rbMp n B (mSI (mSI (mSI S 18 0) 18 (nI (10 * 0 + (rbBy n B pos - 48)))) 17 (nI (pos + 1))) (pos + 1) := ⟨h.1, h.2.1, mSI_s _ _ _, h.2.2.2⟩
    by_cases c2 : 48 ≤ rbBy n B (pos + 1) ∧ rbBy n B (pos + 1) ≤ 57
    · have p2 := rbBy_lt (show rbBy n B (pos + 1) < 128 by omega)
      have a2 := m_nst (N := M + 1 + 1 + 1) h2 p1 (v := rbBy n B pos - 48) (x := 1) (by
        show nI (10 * 0 + (rbBy n B pos - 48)) = nI (rbBy n B pos - 48)
        congr 1
        omega) (by decide) c2 (M + 1)
      have h3 : rbMp n B (mSI (mSI (mSI (mSI (mSI S 18 0) 18 (nI (10 * 0 + (rbBy n B pos - 48)))) 17 (nI (pos + 1))) 18 (nI (10 * (rbBy n B pos - 48) + (rbBy n B (pos + 1) - 48)))) 17 (nI (pos + 1 + 1))) (pos + 1 + 1) := ⟨h.1, h.2.1, mSI_s _ _ _, h.2.2.2⟩
      have a3 := m_nse (N := M + 1 + 1 + 1) h3 p2 (x := 2) (Or.inl rfl) M
      rw [a2, a3, if_pos c2]
      refine ⟨_, rfl, mSI_s _ _ _, fun _ => ?_, fun k k1 k2 => ?_, rfl⟩
      · rw [mSI_o _ _ (by decide), mSI_s]
      · rw [mSI_o _ _ k1, mSI_o _ _ k2, mSI_o _ _ k1, mSI_o _ _ k2, mSI_o _ _ k2]
    · have a2 := m_nse (N := M + 1 + 1 + 1) h2 p1 (x := 1) (Or.inr ⟨by decide, c2⟩) (M + 1)
      rw [a2, if_neg c2]
      refine ⟨_, rfl, mSI_s _ _ _, fun _ => ?_, fun k k1 k2 => ?_, rfl⟩
      · rw [mSI_o _ _ (by decide), mSI_s]
        show nI (10 * 0 + (rbBy n B pos - 48)) = nI (rbBy n B pos - 48)
        congr 1
        omega
      · rw [mSI_o _ _ k1, mSI_o _ _ k2, mSI_o _ _ k2]
  · rw [if_neg c1, if_neg c1, kB_00]
    exact ⟨S, rfl, h.2.2.1, fun q => (by cases q), fun _ _ _ => rfl, rfl⟩
theorem m_place (h : rbMp n B S pos) (S' : zMS) : f_X12_place S' (mNx n B pos) = some (rbIv 2 (rbBy n B pos)) := by
  unfold f_X12_place mNx rbBy
  by_cases q : pos < n
  · rw [if_pos q, if_pos q]
    exact m_placeD _ (h.2.2.2 pos q).2
  · rw [if_neg q, if_neg q]
    rfl
theorem m_emits (h0 : rbMz n B S0 c e0 E1) (h : rbM S0 c e0 S pos em W) (hr : e0 + em.length < 600) (t : rbTk) {v : Int32} (hv : v = rbEM t) : ∃ S', f_X12_emits S v = some S' ∧ rbM S0 c e0 S' pos (em ++ [t]) W := by
  subst hv
  obtain ⟨a, b, d, e, f, g, f1, f2, f3, f4, f5⟩ := h
  unfold f_X12_emits
  rw [b, kO_p (nI_in hr (by decide)), nI_clamp (by omega)]
  simp only [kL_p]
  rw [mSA_1, b, nI_1]
  refine ⟨_, rfl, a, ?_, d, e, ?_, g, ?_, ?_, f3, f4, ?_⟩
  · rw [List.length_append]
    rfl
  · rw [rbAt_app]
    refine ⟨rbAt_u (fun q h1 h2 => ?_) f, ?_, trivial⟩
    · show upd (S.2.1 25) (e0 + em.length) (rbEM t) q = S.2.1 25 q
      rw [pk_un (by omega)]
    · show upd (S.2.1 25) (e0 + em.length) (rbEM t) (e0 + em.length) = rbEM t
      rw [pk_us]
  · intro k hk
    rw [mSI_o _ _ (fun q => hk (by rw [q]; decide))]
    exact f1 k hk
  · intro k hk
    show (mSA S 25 _).2.1 k = _
    rw [mSA_o _ _ (fun q => hk (by rw [q]; decide))]
    exact f2 k hk
  · intro i hi
    show upd (S.2.1 25) (e0 + em.length) (rbEM t) i = _
    rw [pk_un (by omega)]
    exact f5 i hi
theorem m_whole (N : Nat) (h0 : rbMz n B S0 c e0 E1) (hp : pos ≤ n) : ∀ (W : List Nat) (em : List rbTk) (S : zMS) (m : Nat), W.length < m → rbM S0 c e0 S pos em W → e0 + em.length + W.length ≤ E1 + pos → ∃ S', f_X12_whole_l0 N m S = some S' ∧ rbM S0 c e0 S' pos (em ++ rbNots W) (rbStrip W)
  | W, em, S, 0, hm, _, _ => by omega
  | [], em, S, m + 1, hm, h, hq => by
    rw [s_X12_whole_l0]
    show ∃ S', kB _ _ _ = _ ∧ _
    rw [kB_p (show S.1 28 ≤ 0 by rw [h.2.2.1]; decide)]
    refine ⟨S, rfl, ?_⟩
    rw [show em ++ rbNots [] = em from List.append_nil em]
    exact h
  | w :: r, em, S, m + 1, hm, h, hq => by
    have hn := h0.1
    obtain ⟨-, -, -, -, z1, z2⟩ := id h0
    have hl : (w :: r).length = r.length + 1 := rfl
    have h' := h
    obtain ⟨a, b, d, e, f, g, f1⟩ := h
    rw [s_X12_whole_l0]
    show ∃ S', kB _ _ _ = _ ∧ _
    rw [hl] at hq d hm
    rw [d, kB_n (nI_nle (by omega) (by omega)), kL_p, nI_pred, kO_p (nI_in (by omega) (by decide)), nI_clamp (by omega), g.1]
    show ∃ S', _ ∧ rbM S0 c e0 S' pos (em ++ (if w = 33 then (1, 0, 0, 0) :: rbNots r else [])) (if w = 33 then rbStrip r else w :: r)
    have g2 := g.2.1
    by_cases q : w = 33
    · obtain ⟨S1, u1, u2⟩ := m_emits h0 h' (by omega) (1, 0, 0, 0) (v := -33) rfl
      rw [kB_p (show nI w = 33 by rw [q]; rfl), u1, kC_p, if_pos q, if_pos q]
      simp only [kL_p]
      obtain ⟨a, b, d, e, f, g, f1⟩ := u2
      have o : rbOp (w :: r) = rbOp r + 1 := by
        show rbOp r + (if w = 33 ∨ w = 40 then 1 else 0) = rbOp r + 1
        rw [if_pos (Or.inl q)]
      rw [d, hl, nI_pred, mSI_o _ _ (by decide), e, o, nI_pred]
      obtain ⟨S2, v1, v2⟩ := m_whole N h0 hp r (em ++ [(1, 0, 0, 0)]) (mSI (mSI S1 28 (nI r.length)) 29 (nI (rbOp r))) m (by omega) ⟨a, b, by rw [mSI_o _ _ (by decide), mSI_s], mSI_s _ _ _, f, g.2.2, (f1.i (by decide)).i (by decide)⟩ (by rw [List.length_append]; show e0 + (em.length + 1) + r.length ≤ _; omega)
      refine ⟨S2, v1, ?_⟩
      rw [show em ++ (1, 0, 0, 0) :: rbNots r = em ++ [(1, 0, 0, 0)] ++ rbNots r by rw [List.append_assoc]; rfl]
      exact v2
    · rw [kB_n (nI_nk (k := 33) (v := 33) (by omega) rfl (by decide) q), if_neg q, if_neg q, List.append_nil]
      exact ⟨S, rfl, h'⟩
theorem m_settle (N : Nat) (h0 : rbMz n B S0 c e0 E1) (hp : pos ≤ n) {q : Nat} (hq1 : q = 38 ∨ q = 124) : ∀ (W : List Nat) (em : List rbTk) (S : zMS) (m : Nat), W.length < m → rbM S0 c e0 S pos em W → e0 + em.length + W.length ≤ E1 + pos → ∃ S', f_X12_settle_l0 N m S (nI q) = some S' ∧ rbM S0 c e0 S' pos (em ++ rbPo q W) (rbPs q W)
  | W, em, S, 0, hm, _, _ => by omega
  | [], em, S, m + 1, hm, h, hq => by
    rw [s_X12_settle_l0]
    show ∃ S', kB _ _ _ = _ ∧ _
    rw [kB_p (show S.1 28 ≤ 0 by rw [h.2.2.1]; decide)]
    refine ⟨S, rfl, ?_⟩
    rw [show em ++ rbPo q [] = em from List.append_nil em]
    exact h
  | w :: r, em, S, m + 1, hm, h, hq => by
    have hn := h0.1
    obtain ⟨-, -, -, -, z1, z2⟩ := id h0
    have hl : (w :: r).length = r.length + 1 := rfl
    have h' := h
    obtain ⟨a, b, d, e, f, g, f1⟩ := h
    have g2 := g.2.1
    rw [hl] at hq d hm
    have pop : ∀ (t : rbTk) (k0 : zMS → Int32 → Option zMS), -(nI w) = rbEM t → ¬ (w = 33 ∨ w = 40) → ∃ S1, f_X12_settle_b45 N k0 S (nI q) = k0 S1 (nI q) ∧ rbM S0 c e0 S1 pos (em ++ [t]) r := by
      intro t k0 ht hw
      unfold f_X12_settle_b45
      simp only [kL_p]
      have e28 : (mSI S 28 (nI r.length)).1 28 = nI r.length := mSI_s _ _ _
      have o : rbOp (w :: r) = rbOp r := by
        show rbOp r + (if w = 33 ∨ w = 40 then 1 else 0) = rbOp r
        rw [if_neg hw]
        rfl
      rw [d, nI_pred, e28, kO_p (nI_in (by omega) (by decide)), nI_clamp (by omega)]
      have e26 : (mSI S 28 (nI r.length)).2.1 26 r.length = nI w := g.1
      obtain ⟨S1, u1, u2⟩ := m_emits h0 (S := mSI S 28 (nI r.length)) (pos := pos) (em := em) (W := r) ⟨a, b, e28, by rw [mSI_o _ _ (by decide), e, o], f, g.2.2, f1.i (by decide)⟩ (by omega) t ht
      rw [e26, u1, kC_p]
      exact ⟨S1, rfl, u2⟩
    rw [s_X12_settle_l0]
    show ∃ S', kB _ _ _ = _ ∧ _
    rw [d, kB_n (nI_nle (by omega) (by omega))]
    simp only [kL_p]
    rw [nI_pred, kO_p (nI_in (by omega) (by decide)), kO_p (nI_in (by omega) (by decide)), nI_clamp (by omega), g.1]
    show ∃ S', _ ∧ rbM S0 c e0 S' pos (em ++ (if w = 38 then (2, 0, 0, 0) :: rbPo q r else if w = 124 then (if q = 38 then [] else (3, 0, 0, 0) :: rbPo q r) else [])) (if w = 38 then rbPs q r else if w = 124 then (if q = 38 then w :: r else rbPs q r) else w :: r)
    by_cases c1 : w = 38
    · obtain ⟨S1, u1, u2⟩ := pop (2, 0, 0, 0) (f_X12_settle_l0 N m) (by rw [c1]; rfl) (by omega)
      rw [kB_p (show nI w = 38 by rw [c1]; rfl), u1, if_pos c1, if_pos c1]
      obtain ⟨S2, v1, v2⟩ := m_settle N h0 hp hq1 r (em ++ [(2, 0, 0, 0)]) S1 m (by omega) u2 (by rw [List.length_append]; show e0 + (em.length + 1) + r.length ≤ _; omega)
      refine ⟨S2, v1, ?_⟩
      rw [show em ++ (2, 0, 0, 0) :: rbPo q r = em ++ [(2, 0, 0, 0)] ++ rbPo q r by rw [List.append_assoc]; rfl]
      exact v2
    · rw [kB_n (nI_nk (k := 38) (v := 38) (by omega) rfl (by decide) c1), if_neg c1, if_neg c1]
      by_cases c2 : w = 124
      · rw [kB_p (show nI w = 124 by rw [c2]; rfl), if_pos c2, if_pos c2]
        by_cases c3 : q = 38
        · rw [kB_p (show nI q = 38 by rw [c3]; rfl), if_pos c3, if_pos c3, List.append_nil]
          exact ⟨S, rfl, h'⟩
        · obtain ⟨S1, u1, u2⟩ := pop (3, 0, 0, 0) (f_X12_settle_l0 N m) (by rw [c2]; rfl) (by omega)
          rw [kB_n (nI_nk (k := 38) (v := 38) (by omega) rfl (by decide) c3), u1, if_neg c3, if_neg c3]
          obtain ⟨S2, v1, v2⟩ := m_settle N h0 hp hq1 r (em ++ [(3, 0, 0, 0)]) S1 m (by omega) u2 (by rw [List.length_append]; show e0 + (em.length + 1) + r.length ≤ _; omega)
          refine ⟨S2, v1, ?_⟩
          rw [show em ++ (3, 0, 0, 0) :: rbPo q r = em ++ [(3, 0, 0, 0)] ++ rbPo q r by rw [List.append_assoc]; rfl]
          exact v2
      · rw [kB_n (nI_nk (k := 124) (v := 124) (by omega) rfl (by decide) c2), if_neg c2, if_neg c2, List.append_nil]
        exact ⟨S, rfl, h'⟩
theorem m_test (hN : 201 ≤ N) (h0 : rbMz n B S0 c e0 E1) (h : rbM S0 c e0 S pos em W) (hp : pos ≤ n) (hq : e0 + em.length + W.length ≤ E1 + pos) : ∃ S', f_X12_takesTest N S = some (if (pTest (rbBy n B) pos).1 then 1 else 0, S') ∧ S'.1 17 = nI (pTest (rbBy n B) pos).2.1 ∧ rbFe S0 c e0 S' ∧ ((pTest (rbBy n B) pos).1 = true → rbM S0 c e0 S' (pTest (rbBy n B) pos).2.1 (em ++ (pTest (rbBy n B) pos).2.2 ++ rbNots W) (rbStrip W)) := by
  have hn := h0.1
  have hz := h0.2.2.2.2
  have hmp := h.p h0
  unfold f_X12_takesTest
  rw [m_next hmp hp, kC_p, m_place hmp, kC_p]
  unfold pTest
  have x0 : rbIx 2 (rbBy n B pos) = pLet (rbBy n B pos) := rfl
  cases q : pLet (rbBy n B pos) with
  | none =>
    have x2 : rbIv 2 (rbBy n B pos) = -1 := by unfold rbIv; rw [x0, q]
    rw [x2, kB_n (by decide)]
    exact ⟨S, rfl, h.1, h.2.2.2.2.2.2, fun q => (by cases q)⟩
  | some l =>
    obtain ⟨l1, l2⟩ := pLet_lt q
    have p1 := rbBy_lt l2
    have x2 : rbIv 2 (rbBy n B pos) = nI l := by unfold rbIv; rw [x0, q]
    obtain ⟨a, b, d, e, f, g, f1⟩ := h
    have m1 : rbMp n B (mSI S 17 (nI (pos + 1))) (pos + 1) := hmp.go
    have i60 := m_in m1 (mSI S 17 (nI (pos + 1))) (lo := 60) (hi := 62) (by decide) (by decide)
    rw [x2, kB_p (nI_pos' (by omega))]
    simp only [kL_p]
    rw [a, nI_1, m_next m1 p1, kC_p, show f_X12_in (mSI S 17 (nI (pos + 1))) (mNx n B (pos + 1)) 60 62 = _ from i60, kC_p]
    show ∃ S' : zMS, _ ∧ S'.1 17 = nI (if 60 ≤ rbBy n B (pos + 1) ∧ rbBy n B (pos + 1) ≤ 62 then (if (pNum (rbBy n B) (pos + 2)).1 then (true, (pNum (rbBy n B) (pos + 2)).2.1, [(0, l, rbBy n B (pos + 1) - 60, (pNum (rbBy n B) (pos + 2)).2.2)]) else (false, (pNum (rbBy n B) (pos + 2)).2.1, [])) else (false, pos + 1, [])).2.1 ∧ _
    by_cases c1 : 60 ≤ rbBy n B (pos + 1) ∧ rbBy n B (pos + 1) ≤ 62
    · have p2 := rbBy_lt (show rbBy n B (pos + 1) < 128 by omega)
      have e17 : (mSI S 17 (nI (pos + 1))).1 17 = nI (pos + 1) := mSI_s _ _ _
      have m2 : rbMp n B (mSI (mSI S 17 (nI (pos + 1))) 17 (nI (pos + 2))) (pos + 2) := m1.go
      obtain ⟨n1, n2⟩ := pNum_ok (B := B) (show pos + 2 ≤ n from p2)
      obtain ⟨S1, u1, u2, u3, u4, u5⟩ := m_number hN m2 p2
      have ff : rbFe S0 c e0 S1 := by
        obtain ⟨g1, g2⟩ := f1
        refine ⟨fun k hk => ?_, by rw [u5]; exact g2⟩
        rw [u4 k (fun q => hk (by rw [q]; decide)) (fun q => hk (by rw [q]; decide)), mSI_o _ _ (fun q => hk (by rw [q]; decide)), mSI_o _ _ (fun q => hk (by rw [q]; decide))]
        exact g1 k hk
      rw [if_pos c1, kB_10, e17, nI_1, show pos + 1 + 1 = pos + 2 from rfl, u1, kD_p]
      simp only [if_pos c1]
      cases r : (pNum (rbBy n B) (pos + 2)).1 with
      | true =>
        obtain ⟨k1, k2, k3⟩ := n1 r
        have e1 : mNx n B (pos + 1) = nI (60 + (rbBy n B (pos + 1) - 60)) := (m_nx m1 (by omega)).mpr (by omega)
        have e2 : mNx n B (pos + 1) - 60 = nI (rbBy n B (pos + 1) - 60) := by
          rw [e1, ← nI_add]
          have : nI 60 = (60 : Int32) := rfl
          rw [this]
          grind
        have e3 : (1000 : Int32) * nI l + (100 : Int32) * (mNx n B (pos + 1) - 60) + S1.1 18 = rbEM (0, l, rbBy n B (pos + 1) - 60, (pNum (rbBy n B) (pos + 2)).2.2) := by
          rw [e2, u3 r, show (1000 : Int32) = nI 1000 from rfl, show (100 : Int32) = nI 100 from rfl, pk_mul, pk_mul, nI_add, nI_add]
          rfl
        have hm1 : rbM S0 c e0 S1 (pNum (rbBy n B) (pos + 2)).2.1 em W := by
          have z : ∀ k : Nat, k ≠ 17 → k ≠ 18 → S1.1 k = S.1 k := fun k k1 k2 => by rw [u4 k k1 k2, mSI_o _ _ k1, mSI_o _ _ k1]
          exact ⟨u2, by rw [z 27 (by decide) (by decide)]; exact b, by rw [z 28 (by decide) (by decide)]; exact d, by rw [z 29 (by decide) (by decide)]; exact e, by rw [u5]; exact f, by rw [u5]; exact g, ff⟩
        obtain ⟨S2, v1, v2⟩ := m_emits h0 hm1 (by omega) _ e3
        obtain ⟨S3, w1, w2⟩ := m_whole N h0 k2 W _ S2 N (by omega) v2 (by rw [List.length_append]; show e0 + (em.length + 1) + W.length ≤ _; omega)
        rw [if_pos (rfl : true = true), if_pos (rfl : true = true)]
        unfold f_X12_whole
        rw [kB_10, v1, kC_p, w1, kC_p]
        exact ⟨S3, rfl, w2.1, w2.2.2.2.2.2.2, fun _ => w2⟩
      | false =>
        rw [if_neg Bool.false_ne_true, if_neg Bool.false_ne_true, kB_00]
        exact ⟨S1, rfl, u2, ff, fun q => (by cases q)⟩
    · rw [if_neg c1, kB_00]
      simp only [if_neg c1]
      exact ⟨_, rfl, mSI_s _ _ _, f1.i (by decide), fun q => (by cases q)⟩
end RBME
