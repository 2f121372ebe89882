/-! B: CALM, FUSS, late, deep on both sides -/
def rbSum (F : Nat → Int32) (w : Int32) : List rbCl → Int32 → Int32 → Int32 × Int32
  | [], a, s => (a, s)
  | c :: L, a, s => if c.1 = w then rbSum F w L 1 (if rbHd (rbEv F c.2.2 []) then s + c.2.1 else s) else rbSum F w L a s
def rbR (d : Int32) (r : Int32 × Int32) : Int32 := if r.1 = 0 then d else r.2
def rbSm (F : Nat → Int32) (w : Int32) (L : List rbCl) (d : Int32) : Int32 := rbR d (rbSum F w L 0 0)
def rbLast (w : Int32) : List rbCl → Int32 → Int32
  | [], d => d
  | c :: L, d => rbLast w L (if c.1 = w then c.2.1 else d)
def rbHCl (Q : zQS) : List rbCl → Nat → Nat → Prop
  | [], _, _ => True
  | c :: L, j, s => Q.2 0 j = c.1 ∧ Q.2 1 j = c.2.1 ∧ Q.2 2 j = nI (s + c.2.2.length) ∧ s + c.2.2.length ≤ Q.1 3 ∧ rbAt (Q.2 3) rbEC s c.2.2 ∧ rbHCl Q L (j + 1) (s + c.2.2.length)
def rbHC (L : List rbCl) (Q : zQS) : Prop := Q.1 0 = L.length ∧ Q.1 1 = L.length ∧ Q.1 2 = L.length ∧ Q.1 3 ≤ 100 ∧ Q.1 4 = 6 ∧ L.length ≤ 10 ∧ rbHCl Q L 0 0
def rbWL (L : List rbCl) : Prop := ∀ c, c ∈ L → (c.1 = 0 ∨ c.1 = 1 → rbWf c.2.2 0 1) ∧ ∃ k : Nat, k ≤ 99 ∧ c.2.1 = nI k
def rbMl (SM : zMS) (B : Nat) : List rbCl → Nat → Prop
  | [], _ => True
  | c :: L, k => SM.2.1 21 k = c.1 ∧ SM.2.1 22 k = c.2.1 ∧ (c.1 = 0 ∨ c.1 = 1 → ∃ s : Nat, SM.2.1 23 k = nI s ∧ SM.2.1 24 k = nI (s + c.2.2.length) ∧ s + c.2.2.length ≤ B ∧ rbAt (SM.2.1 25) rbEM s c.2.2 ∧ c.2.2.length ≤ 100) ∧ rbMl SM B L (k + 1)
def rbMh (SM : zMS) (f : Nat) (L : List rbCl) : Prop := f < 6 ∧ SM.2.1 20 f = nI L.length ∧ L.length ≤ 10 ∧ rbMl SM (100 * (f + 1)) L (10 * f)
def rbMc (SM : zMS) (L : List rbCl) : Prop := (SM.1 15 = -1 ∧ L = []) ∨ ∃ f : Nat, SM.1 15 = nI f ∧ rbMh SM f L
theorem rb_b62 {N : Nat} {Q : zQS} {k : Int32 → Int32 → Int32 → Int32 → Int32 → Int32 → Option Int32} {w d a sm : Int32} {j s' : Nat} (hj : j < Q.1 2) (h2 : Q.1 2 ≤ 10) (he : Q.2 2 j = nI s') : f_X2_sum_b62 N Q k w d a sm (nI j) = k w d a sm (nI s') (nI (j + 1)) := by
  unfold f_X2_sum_b62
  rw [kO_p (nI_in hj (by omega)), nI_clamp (by omega), he, kL_p, nI_1]
theorem rb_csum (N : Nat) {Q : zQS} {F : Nat → Int32} {w d : Int32} {L0 : List rbCl} (hN : 101 ≤ N) (h : rbHC L0 Q) (hF : ∀ i, i < 6 → Q.2 4 i = F i) (hw : w = 0 ∨ w = 1) :
    ∀ (L : List rbCl) (j s : Nat) (a sm : Int32) (n : Nat), j + L.length = L0.length → rbHCl Q L j s → rbWL L → L.length < n → f_X2_sum_l11 N Q n w d a sm (nI s) (nI j) = some (rbR d (rbSum F w L a sm))
  | L, j, s, a, sm, 0, _, _, _, hn => by omega
  | [], j, s, a, sm, n + 1, hl, hc, hW, hn => by
    obtain ⟨h0, h1, h2, h3, h4, h5, -⟩ := h
    have hl : j = L0.length := by simpa using hl
    rw [s_X2_sum_l11]
    show kB _ _ _ = _
    rw [kB_p (show Int32.ofNat (Q.1 0) ≤ nI j from nI_le (by omega) (by omega))]
    show _ = some (rbR d (a, sm))
    unfold rbR
    by_cases a0 : a = 0
    · rw [kB_p a0, if_pos a0]
    · rw [kB_n a0, if_neg a0]
  | c :: L, j, s, a, sm, n + 1, hl, hc, hW, hn => by
    have h' := h
    obtain ⟨h0, h1, h2, h3, h4, h5, -⟩ := h
    have hl : j + (L.length + 1) = L0.length := by simpa using hl
    have ih := fun a' sm' => rb_csum N (d := d) hN h' hF hw L (j + 1) (s + c.2.2.length) a' sm' n (by omega) hc.2.2.2.2.2 (fun c' m => hW c' (List.mem_cons_of_mem _ m)) (by simpa using hn)
    obtain ⟨c1, c2, c3, c4, c5, c6⟩ := hc
    rw [s_X2_sum_l11]
    show kB _ _ _ = _
    rw [kB_n (show ¬ Int32.ofNat (Q.1 0) ≤ nI j from nI_ge (by omega) (by omega)), kO_p (nI_in (by omega) (by omega)), nI_clamp (by omega), c1]
    by_cases cw : c.1 = w
    · have e1 : rbSum F w (c :: L) a sm = rbSum F w L 1 (if rbHd (rbEv F c.2.2 []) then sm + c.2.1 else sm) := by
        show (if c.1 = w then _ else _) = _
        rw [if_pos cw]
      have hc2 := (hW c (List.mem_cons_self ..)).1 (by rw [cw]; exact hw)
      have hh : f_X2_holds_l5 N Q N (nI (s + c.2.2.length)) 0 (nI s) = some (if rbHd (rbEv F c.2.2 []) then 1 else 0) := rb_chold N h4 c4 h3 hF c.2.2 [] s N c5 rfl hc2 (by decide) (by omega)
      rw [kB_p cw, kO_p (rb_in2 (by omega) (by omega)), c3]
      unfold f_X2_holds
      rw [hh, kC_p, e1]
      by_cases hd : rbHd (rbEv F c.2.2 []) = true
      · rw [hd, if_pos rfl, if_pos rfl, kB_n (by decide), kO_p (rb_in2 (by omega) (by omega)), c2, kL_p, rb_b62 (by omega) (by omega) c3]
        exact ih _ _
      · have hd : rbHd (rbEv F c.2.2 []) = false := by simpa using hd
        rw [hd, if_neg (by decide), if_neg (by decide), kB_p rfl, rb_b62 (by omega) (by omega) c3]
        exact ih _ _
    · have e1 : rbSum F w (c :: L) a sm = rbSum F w L a sm := by
        show (if c.1 = w then _ else _) = _
        rw [if_neg cw]
      rw [kB_n cw, rb_b62 (by omega) (by omega) c3, e1]
      exact ih _ _
theorem rb_clast (N : Nat) {Q : zQS} {w : Int32} {L0 : List rbCl} (h : rbHC L0 Q) :
    ∀ (L : List rbCl) (j s : Nat) (d : Int32) (n : Nat), j + L.length = L0.length → rbHCl Q L j s → L.length < n → f_X2_last_l5 N Q n w d (nI j) = some (rbLast w L d)
  | L, j, s, d, 0, _, _, hn => by omega
  | [], j, s, d, n + 1, hl, hc, hn => by
    obtain ⟨h0, h1, h2, h3, h4, h5, -⟩ := h
    have hl : j = L0.length := by simpa using hl
    rw [s_X2_last_l5]
    show kB _ _ _ = _
    rw [kB_p (show Int32.ofNat (Q.1 0) ≤ nI j from nI_le (by omega) (by omega))]
    rfl
  | c :: L, j, s, d, n + 1, hl, hc, hn => by
    have h' := h
    obtain ⟨h0, h1, h2, h3, h4, h5, -⟩ := h
    have hl : j + (L.length + 1) = L0.length := by simpa using hl
    have ih := fun d' => rb_clast N (w := w) h' L (j + 1) (s + c.2.2.length) d' n (by omega) hc.2.2.2.2.2 (by simpa using hn)
    obtain ⟨c1, c2, c3, c4, c5, c6⟩ := hc
    rw [s_X2_last_l5]
    show kB _ _ _ = _
    rw [kB_n (show ¬ Int32.ofNat (Q.1 0) ≤ nI j from nI_ge (by omega) (by omega)), kO_p (nI_in (by omega) (by omega)), nI_clamp (by omega), c1]
    show _ = some (rbLast w L (if c.1 = w then c.2.1 else d))
    by_cases cw : c.1 = w
    · rw [kB_p cw, kO_p (rb_in2 (by omega) (by omega)), c2, kL_p, nI_1, if_pos cw]
      exact ih _
    · rw [kB_n cw, kL_p, nI_1, if_neg cw]
      exact ih _
/-- the reference's begin and behind -/
def rbMb (SM : zMS) (L : List rbCl) : Prop := ∃ b B : Nat, b + L.length ≤ 60 ∧ L.length ≤ 10 ∧ B ≤ 600 ∧ f_X12_begin SM = some (nI b) ∧ f_X12_behind SM = some (nI (b + L.length)) ∧ rbMl SM B L b
theorem rbMc.b {SM : zMS} {L : List rbCl} (h : rbMc SM L) : rbMb SM L := by
  rcases h with ⟨h1, rfl⟩ | ⟨f, h1, h2, h3, h4, h5⟩
  · refine ⟨0, 0, by decide, by decide, by decide, ?_, ?_, trivial⟩
    · unfold f_X12_begin
      rw [h1, kB_n (by decide)]
      rfl
    · unfold f_X12_behind
      rw [h1, kB_n (by decide)]
      rfl
  · have e10 : (10 : Int32) = nI 10 := rfl
    refine ⟨10 * f, 100 * (f + 1), by omega, h4, by omega, ?_, ?_, h5⟩
    · unfold f_X12_begin
      rw [h1, kB_p (nI_pos' (by omega)), kL_p, e10, pk_mul]
    · unfold f_X12_behind
      rw [h1, kB_p (nI_pos' (by omega)), kL_p, e10, pk_mul, kO_p (nI_in h2 (by decide)), nI_clamp (by omega), h3, kL_p, nI_add]
theorem rb_beh (SM : zMS) (g : Nat → Int32) : f_X12_behind (mSA SM 31 g) = f_X12_behind SM := by
  unfold f_X12_behind
  simp only [mSA_1, mSA_o SM g (show (20 : Nat) ≠ 31 by decide)]
theorem mSA_id (S : zMS) (k : Nat) : mSA S k (S.2.1 k) = S := by
  have : va_up S.2.1 k (S.2.1 k) = S.2.1 := by
    funext j
    unfold va_up
    split
    · rename_i e
      rw [e]
    · rfl
  unfold mSA
  rw [this]
theorem rb_msum (N : Nat) {SM : zMS} {b B e p t : Nat} {w d : Int32} (hN : 101 ≤ N) (hb : f_X12_behind SM = some (nI e)) (he : e ≤ 60) (hB : B ≤ 600) (hp : p < 4) (ht : t < 7) (hw : w = 0 ∨ w = 1) :
    ∀ (L : List rbCl) (j : Nat) (a sm : Int32) (n : Nat) (g : Nat → Int32), j + L.length = e → rbMl SM B L j → rbWL L → L.length < n → ∃ g', f_X12_sumOf_l12 N n (mSA SM 31 g) w (nI p) (nI t) d sm a (nI j) = some (rbR d (rbSum (rbF SM p t) w L a sm), mSA SM 31 g')
  | L, j, a, sm, 0, g, _, _, _, hn => by omega
  | [], j, a, sm, n + 1, g, hl, hc, hW, hn => by
    have hl : j = e := by simpa using hl
    refine ⟨g, ?_⟩
    rw [s_X12_sumOf_l12]
    show kC _ _ = _
    rw [rb_beh, hb, kC_p, kB_p (nI_le (by omega) (by omega))]
    show _ = some (rbR d (a, sm), _)
    unfold rbR
    by_cases a0 : a = 0
    · rw [kB_p a0, if_pos a0]
    · rw [kB_n a0, if_neg a0]
  | c :: L, j, a, sm, n + 1, g, hl, hc, hW, hn => by
    have hl : j + (L.length + 1) = e := by simpa using hl
    have ih := fun a' sm' g' => rb_msum N (b := b) (d := d) hN hb he hB hp ht hw L (j + 1) a' sm' n g' (by omega) hc.2.2.2 (fun c' m => hW c' (List.mem_cons_of_mem _ m)) (by simpa using hn)
    obtain ⟨c1, c2, c3, c4⟩ := hc
    rw [s_X12_sumOf_l12]
    show ∃ g', kC _ _ = _
    rw [rb_beh, hb, kC_p, kB_n (nI_ge (by omega) (by omega)), kO_p (nI_in (by omega) (by omega)), nI_clamp (by omega), mSA_o _ _ (by decide), c1]
    by_cases cw : c.1 = w
    · have e1 : rbSum (rbF SM p t) w (c :: L) a sm = rbSum (rbF SM p t) w L 1 (if rbHd (rbEv (rbF SM p t) c.2.2 []) then sm + c.2.1 else sm) := by
        show (if c.1 = w then _ else _) = _
        rw [if_pos cw]
      have hww : c.1 = 0 ∨ c.1 = 1 := by rw [cw]; exact hw
      have hc2 := (hW c (List.mem_cons_self ..)).1 hww
      obtain ⟨s, s1, s2, s3, s4, s5⟩ := c3 hww
      have hh0 : ∃ g1, f_X12_holds_l11 N N (mSA SM 31 g) (nI j) (nI p) (nI t) 0 (nI s) = some (if rbHd (rbEv (rbF SM p t) c.2.2 []) then 1 else 0, mSA SM 31 g1) := rb_mhold N (show j < 60 by omega) s2 (by omega) hp ht c.2.2 [] s N g s4 rfl hc2 (by decide) trivial (by omega)
      obtain ⟨g1, hh⟩ := hh0
      rw [kB_p cw]
      unfold f_X12_holds
      rw [kO_p (nI_in (by omega) (by decide)), nI_clamp (by omega), mSA_o _ _ (by decide), s1, hh, kD_p, e1]
      by_cases hd : rbHd (rbEv (rbF SM p t) c.2.2 []) = true
      · rw [hd, if_pos rfl, if_pos rfl, kB_n (by decide), kO_p (rb_in2 (by omega) (by omega)), mSA_o _ _ (by decide), c2, kL_p, kL_p, nI_1]
        exact ih _ _ _
      · have hd : rbHd (rbEv (rbF SM p t) c.2.2 []) = false := by simpa using hd
        rw [hd, if_neg (by decide), if_neg (by decide), kB_p rfl, kL_p, kL_p, nI_1, Int32.add_zero sm]
        exact ih _ _ _
    · have e1 : rbSum (rbF SM p t) w (c :: L) a sm = rbSum (rbF SM p t) w L a sm := by
        show (if c.1 = w then _ else _) = _
        rw [if_neg cw]
      rw [kB_n cw, kL_p, nI_1, e1]
      exact ih _ _ _
theorem rb_mlast (N : Nat) {SM : zMS} {B e : Nat} {w : Int32} (hb : f_X12_behind SM = some (nI e)) (he : e ≤ 60) :
    ∀ (L : List rbCl) (j : Nat) (d : Int32) (n : Nat), j + L.length = e → rbMl SM B L j → L.length < n → f_X12_lastOf_l8 N SM n w d (nI j) = some (rbLast w L d)
  | L, j, d, 0, _, _, hn => by omega
  | [], j, d, n + 1, hl, hc, hn => by
    have hl : j = e := by simpa using hl
    rw [s_X12_lastOf_l8]
    show kC _ _ = _
    rw [hb, kC_p, kB_p (nI_le (by omega) (by omega))]
    rfl
  | c :: L, j, d, n + 1, hl, hc, hn => by
    have hl : j + (L.length + 1) = e := by simpa using hl
    have ih := fun d' => rb_mlast N (w := w) hb he L (j + 1) d' n (by omega) hc.2.2.2 (by simpa using hn)
    obtain ⟨c1, c2, c3, c4⟩ := hc
    rw [s_X12_lastOf_l8]
    show kC _ _ = _
    rw [hb, kC_p, kB_n (nI_ge (by omega) (by omega)), kO_p (nI_in (by omega) (by omega)), nI_clamp (by omega), c1]
    show _ = some (rbLast w L (if c.1 = w then c.2.1 else d))
    by_cases cw : c.1 = w
    · rw [kB_p cw, kO_p (rb_in2 (by omega) (by omega)), c2, kL_p, nI_1, if_pos cw]
      exact ih _
    · rw [kB_n cw, kL_p, nI_1, if_neg cw]
      exact ih _
theorem rb_sumOf {N : Nat} {SM : zMS} {L : List rbCl} {p t : Nat} {w d : Int32} (hN : 101 ≤ N) (hp : p < 4) (ht : t < 7) (hw : w = 0 ∨ w = 1) (h : rbMc SM L) (hW : rbWL L) : ∃ g, f_X12_sumOf N SM w (nI p) (nI t) d = some (rbSm (rbF SM p t) w L d, mSA SM 31 g) := by
  obtain ⟨b, B, h1, h2, h3, h4, h5, h6⟩ := h.b
  unfold f_X12_sumOf
  rw [h4, kC_p]
  have := rb_msum N (b := b) (d := d) hN h5 h1 h3 hp ht hw L b 0 0 N (SM.2.1 31) rfl h6 hW (by omega)
  rw [mSA_id] at this
  exact this
theorem rb_lastOf {N : Nat} {SM : zMS} {L : List rbCl} {w d : Int32} (hN : 101 ≤ N) (h : rbMc SM L) : f_X12_lastOf N SM w d = some (rbLast w L d) := by
  obtain ⟨b, B, h1, h2, h3, h4, h5, h6⟩ := h.b
  unfold f_X12_lastOf
  rw [h4, kC_p]
  exact rb_mlast N h5 h1 L b d N rfl h6 (by omega)
theorem rb_last {N : Nat} {Q : zQS} {L : List rbCl} {w d : Int32} (hN : 101 ≤ N) (h : rbHC L Q) : f_X2_last N Q w d = some (rbLast w L d) := by
  unfold f_X2_last
  exact rb_clast N h L 0 0 d N (by omega) h.2.2.2.2.2.2 (by have := h.2.2.2.2.2.1; omega)
theorem rb_sum {N : Nat} {Q : zQS} {F : Nat → Int32} {L : List rbCl} {w d : Int32} (hN : 101 ≤ N) (h : rbHC L Q) (hW : rbWL L) (hF : ∀ i, i < 6 → Q.2 4 i = F i) (hw : w = 0 ∨ w = 1) : f_X2_sum N Q w d = some (rbSm F w L d) := by
  unfold f_X2_sum
  exact rb_csum N hN h hF hw L 0 0 0 0 N (by omega) h.2.2.2.2.2.2 hW (by have := h.2.2.2.2.2.1; omega)
