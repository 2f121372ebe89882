/-! B: what an E holds, the reference -/
theorem rb_in2 {c N : Nat} (h : c < N) (hN : N < 2 ^ 31) : ¬ (nI c < 0 ∨ N ≤ c) := by
  rintro (h2 | h2)
  · exact nI_pos (by omega) h2
  · omega
theorem mSA_s (S : zMS) (k : Nat) (g : Nat → Int32) : (mSA S k g).2.1 k = g := va_up_self _ _ _
theorem mSA_o (S : zMS) {k j : Nat} (g : Nat → Int32) (h : j ≠ k) : (mSA S k g).2.1 j = S.2.1 j := va_up_ne _ _ h
theorem mSA_1 (S : zMS) (k : Nat) (g : Nat → Int32) : (mSA S k g).1 = S.1 := rfl
theorem mSA_2 (S : zMS) (k : Nat) (g : Nat → Int32) : (mSA S k g).2.2 = S.2.2 := rfl
theorem mSI_s (S : zMS) (k : Nat) (v : Int32) : (mSI S k v).1 k = v := va_up_self _ _ _
theorem mSI_o (S : zMS) {k j : Nat} (v : Int32) (h : j ≠ k) : (mSI S k v).1 j = S.1 j := va_up_ne _ _ h
theorem mSI_2 (S : zMS) (k : Nat) (v : Int32) : (mSI S k v).2 = S.2 := rfl
theorem mSA_u (S : zMS) (k : Nat) (g g' : Nat → Int32) : mSA (mSA S k g) k g' = mSA S k g' := by
  unfold mSA
  rw [bx_uu]
def rbPl (g : Nat → Int32) : List Bool → Prop
  | [] => True
  | b :: r => g r.length = (if b then 1 else 0) ∧ rbPl g r
theorem rbPl_u {g : Nat → Int32} {x : Int32} {k : Nat} : ∀ {st : List Bool}, st.length ≤ k → rbPl g st → rbPl (upd g k x) st
  | [], _, _ => trivial
  | b :: r, h, p => by
    have h : r.length + 1 ≤ k := h
    refine ⟨?_, rbPl_u (by omega) p.2⟩
    rw [pk_un (by omega)]
    exact p.1
def rbFc (i k t cl no ha : Int32) : Nat → Int32 := fun l => if l = 0 then i else if l = 1 then k else if l = 2 then t else if l = 3 then cl else if l = 4 then no else ha
def rbF (SM : zMS) (p t : Nat) : Nat → Int32 := rbFc (nI p) (SM.2.1 11 p) (nI t) (SM.1 3 / 10) (SM.1 5) (SM.2.1 10 t - SM.2.1 10 t / 100 * 100)
theorem rb_fact {SM : zMS} {g : Nat → Int32} {l p t : Nat} (hl : l < 6) (hp : p < 4) (ht : t < 7) : f_X12_factOf (mSA SM 31 g) (nI l) (nI p) (nI t) = some (rbF SM p t l) := by
  unfold f_X12_factOf
  have hc : l = 0 ∨ l = 1 ∨ l = 2 ∨ l = 3 ∨ l = 4 ∨ l = 5 := by omega
  rcases hc with rfl | rfl | rfl | rfl | rfl | rfl
  · rw [kB_p (by decide)]; rfl
  · rw [kB_n (by decide), kB_p (by decide), kO_p (nI_in hp (by decide)), nI_clamp (by omega), mSA_o _ _ (by decide)]; rfl
  · rw [kB_n (by decide), kB_n (by decide), kB_p (by decide)]; rfl
  · rw [kB_n (by decide), kB_n (by decide), kB_n (by decide), kB_p (by decide)]; rfl
  · rw [kB_n (by decide), kB_n (by decide), kB_n (by decide), kB_n (by decide), kB_p (by decide)]; rfl
  · rw [kB_n (by decide), kB_n (by decide), kB_n (by decide), kB_n (by decide), kB_n (by decide), kO_p (nI_in ht (by decide)), nI_clamp (by omega), mSA_o _ _ (by decide)]; rfl
theorem rbEM_p {t : rbTk} (h : rbTok t) (h0 : t.1 = 0) : ¬ rbEM t = -33 ∧ 0 ≤ rbEM t ∧ rbEM t / 1000 = nI t.2.1 ∧ rbEM t / 100 - rbEM t / 100 / 10 * 10 = nI t.2.2.1 ∧ rbEM t - rbEM t / 100 * 100 = nI t.2.2.2 := by
  obtain ⟨h1, h2, h3⟩ := h
  have e : rbEM t = nI (1000 * t.2.1 + 100 * t.2.2.1 + t.2.2.2) := if_pos h0
  have hb : 1000 * t.2.1 + 100 * t.2.2.1 + t.2.2.2 < 10000 := by omega
  rw [e]
  have e1 : (1000 : Int32) = nI 1000 := rfl
  have e2 : (100 : Int32) = nI 100 := rfl
  have e3 : (10 : Int32) = nI 10 := rfl
  refine ⟨?_, nI_pos' (by omega), ?_, ?_, ?_⟩
  · intro q
    have := nI_pos (n := 1000 * t.2.1 + 100 * t.2.2.1 + t.2.2.2) (by omega)
    rw [q] at this
    exact this (by decide)
  · rw [e1, pk_div (by omega) (by omega) (by omega)]
    congr 1
    omega
  · rw [e2, pk_div (by omega) (by omega) (by omega), e3, pk_rem (by omega) (by omega) (by omega)]
    congr 1
    omega
  · rw [e2, pk_rem (by omega) (by omega) (by omega)]
    congr 1
    omega
theorem rb_lts2 (x : Int32) (n s : Nat) (hs : s < 3) : (s = 0 → (nI n ≤ x ↔ rbCmp x s n = false)) ∧ (s = 1 → (x = nI n ↔ rbCmp x s n = true)) ∧ (¬ s = 0 → ¬ s = 1 → (x ≤ nI n ↔ rbCmp x s n = false)) := by
  refine ⟨fun a => ?_, fun a => ?_, fun a b => ?_⟩
  · subst a
    simp [rbCmp, Int32.not_lt]
  · subst a
    simp [rbCmp]
  · simp [rbCmp, a, b, Int32.not_lt]
theorem rb_mhold (N : Nat) {SM : zMS} {c p t e : Nat} (hc : c < 60) (he : SM.2.1 24 c = nI e) (he6 : e ≤ 600) (hp : p < 4) (ht : t < 7) :
    ∀ (ts : List rbTk) (st : List Bool) (s n : Nat) (g : Nat → Int32), rbAt (SM.2.1 25) rbEM s ts → s + ts.length = e → rbWf ts st.length 1 → st.length ≤ 30 → rbPl g st → ts.length < n → ∃ g', f_X12_holds_l11 N n (mSA SM 31 g) (nI c) (nI p) (nI t) (nI st.length) (nI s) = some (if rbHd (rbEv (rbF SM p t) ts st) then 1 else 0, mSA SM 31 g')
  | ts, st, s, 0, _, _, _, _, _, _, hn => by omega
  | [], st, s, n + 1, g, ha, hs, hw, hl, hg, hn => by
    have hs' : s = e := by simpa using hs
    subst hs'
    refine ⟨g, ?_⟩
    rw [s_X12_holds_l11]
    show kO _ _ = _
    rw [kO_p (nI_in hc (by decide)), nI_clamp (by omega), mSA_o _ _ (by decide), he, kB_p (nI_le (Nat.le_refl _) (by omega)), kO_p (by decide), mSA_s]
    cases st with
    | nil => cases hw
    | cons b r =>
      cases r with
      | cons a r => simp [rbWf] at hw
      | nil =>
        have h0 : g 0 = (if b then 1 else 0) := hg.1
        have h1 : Int32.toNatClampNeg 0 = 0 := rfl
        rw [h1, h0]
        cases b
        · rw [kO_p (by decide)]; rfl
        · rw [kO_p (by decide)]; rfl
  | t0 :: ts, st, s, n + 1, g, ha, hs, hw, hl, hg, hn => by
    have hlen : s + (ts.length + 1) = e := by simpa using hs
    have ih := fun st' g' => rb_mhold N hc he he6 hp ht ts st' (s + 1) n g' ha.2 (by omega)
    rw [s_X12_holds_l11]
    show ∃ g', kO _ _ = _
    rw [kO_p (nI_in hc (by decide)), nI_clamp (by omega), mSA_o _ _ (by decide), he, kB_n (nI_ge (by omega) (by omega)), kO_p (nI_in (by omega) (by decide))]
    simp only [mSA_s, nI_clamp (show s < 2 ^ 31 by omega), mSA_o SM g (show (25 : Nat) ≠ 31 by decide), ha.1]
    obtain ⟨hk, hw⟩ := hw
    rcases hw with ⟨k0, k1, k2⟩ | ⟨k0, k1, k2⟩ | ⟨k0, k1, k2⟩
    · obtain ⟨p1, p2, p3, p4, p5⟩ := rbEM_p hk k0
      rw [kB_n p1, kB_p p2]
      simp only [kL_p]
      rw [p3, rb_fact hk.1 hp ht, kC_p]
      simp only [p4, p5]
      obtain ⟨q1, q2, q3⟩ := rb_lts2 (rbF SM p t t0.2.1) t0.2.2.2 t0.2.2.1 hk.2.1
      have e1 : rbEv (rbF SM p t) (t0 :: ts) st = rbEv (rbF SM p t) ts (rbCmp (rbF SM p t t0.2.1) t0.2.2.1 t0.2.2.2 :: st) := by
        show rbEv _ ts (rbSt _ t0 st) = _
        unfold rbSt
        rw [if_pos k0]
      rw [e1]
      have fin : ∀ b : Bool, rbCmp (rbF SM p t t0.2.1) t0.2.2.1 t0.2.2.2 = b → ∃ g', kO (¬ ((nI st.length) < 0 ∨ 100 ≤ Int32.toNatClampNeg (nI st.length))) (f_X12_holds_l11 N n (mSA (mSA SM 31 g) 31 (upd g (Int32.toNatClampNeg (nI st.length)) (if b then 1 else 0))) (nI c) (nI p) (nI t) (nI st.length + 1) (nI s + 1)) = some (if rbHd (rbEv (rbF SM p t) ts (rbCmp (rbF SM p t t0.2.1) t0.2.2.1 t0.2.2.2 :: st)) then 1 else 0, mSA SM 31 g') := by
        intro b hb
        rw [hb, kO_p (nI_in (by omega) (by decide)), nI_clamp (by omega), mSA_u, nI_1, nI_1]
        exact ih (b :: st) _ k2 (by simpa using k1) ⟨pk_us, rbPl_u (Nat.le_refl _) hg⟩ (by simpa using hn)
      have z0 : (0 : Int32) = nI 0 := rfl
      have z1 : (1 : Int32) = nI 1 := rfl
      by_cases s0 : t0.2.2.1 = 0
      · rw [kB_p (by rw [s0]; rfl)]
        by_cases cc : nI t0.2.2.2 ≤ rbF SM p t t0.2.1
        · rw [kB_p cc]
          exact fin false ((q1 s0).mp cc)
        · rw [kB_n cc]
          exact fin true (by simpa using fun q => cc ((q1 s0).mpr q))
      · rw [kB_n (by rw [z0, nI_eq (by have := hk.2.1; omega) (by omega)]; exact s0)]
        by_cases s1 : t0.2.2.1 = 1
        · rw [kB_p (by rw [s1]; rfl)]
          by_cases cc : rbF SM p t t0.2.1 = nI t0.2.2.2
          · rw [kB_p cc]
            exact fin true ((q2 s1).mp cc)
          · rw [kB_n cc]
            exact fin false (by simpa using fun q => cc ((q2 s1).mpr q))
        · rw [kB_n (by rw [z1, nI_eq (by have := hk.2.1; omega) (by omega)]; exact s1)]
          by_cases cc : rbF SM p t t0.2.1 ≤ nI t0.2.2.2
          · rw [kB_p cc]
            exact fin false ((q3 s0 s1).mp cc)
          · rw [kB_n cc]
            exact fin true (by simpa using fun q => cc ((q3 s0 s1).mpr q))
    · cases st with
      | nil => simp at k1
      | cons b r =>
        have e0 : rbEM t0 = -33 := by unfold rbEM; rw [if_neg (by omega), if_pos k0]
        have e1 : rbEv (rbF SM p t) (t0 :: ts) (b :: r) = rbEv (rbF SM p t) ts ((!b) :: r) := by
          show rbEv _ ts (rbSt _ t0 (b :: r)) = _
          unfold rbSt
          rw [if_neg (by omega), if_pos k0]
        have hl3 : r.length + 1 ≤ 30 := hl
        rw [e0, e1, kB_p (by rfl)]
        simp only [kL_p, List.length_cons, nI_pred, nI_1]
        rw [kO_p (nI_in (by omega) (by decide)), nI_clamp (by omega), hg.1]
        cases b
        · rw [kB_p (by rfl), kO_p (rb_in2 (by omega) (by decide)), mSA_u]
          exact ih (true :: r) _ k2 hl ⟨pk_us, rbPl_u (Nat.le_refl _) hg.2⟩ (by simpa using hn)
        · rw [kB_n (by decide), kO_p (rb_in2 (by omega) (by decide)), mSA_u]
          exact ih (false :: r) _ k2 hl ⟨pk_us, rbPl_u (Nat.le_refl _) hg.2⟩ (by simpa using hn)
    · cases st with
      | nil => simp at k1
      | cons b r =>
        cases r with
        | nil => simp at k1
        | cons a r =>
          have hl3 : r.length + 2 ≤ 30 := by simp at hl; omega
          have ga : g r.length = (if a then 1 else 0) := hg.2.1
          have gb : g (r.length + 1) = (if b then 1 else 0) := hg.1
          have h33 : ¬ rbEM t0 = -33 ∧ ¬ 0 ≤ rbEM t0 := by
            unfold rbEM
            rw [if_neg (by omega), if_neg (by omega)]
            split <;> decide
          rw [kB_n h33.1, kB_n h33.2]
          simp only [kL_p, List.length_cons, pk_m1, nI_pred, nI_1, nI_clamp (show r.length < 2 ^ 31 by omega), nI_clamp (show r.length + 1 < 2 ^ 31 by omega), ga, gb]
          have fin : ∀ z : Bool, rbEv (rbF SM p t) (t0 :: ts) (b :: a :: r) = rbEv (rbF SM p t) ts (z :: r) → ∃ g', kO (¬ ((nI r.length) < 0 ∨ 100 ≤ r.length)) (f_X12_holds_l11 N n (mSA (mSA SM 31 g) 31 (upd g r.length (if z then 1 else 0))) (nI c) (nI p) (nI t) (nI (r.length + 1)) (nI (s + 1))) = some (if rbHd (rbEv (rbF SM p t) (t0 :: ts) (b :: a :: r)) then 1 else 0, mSA SM 31 g') := by
            intro z hz
            rw [hz, kO_p (rb_in2 (by omega) (by decide)), mSA_u]
            exact ih (z :: r) _ k2 (by simp; omega) ⟨pk_us, rbPl_u (Nat.le_refl _) hg.2.2⟩ (by simpa using hn)
          have hev : rbEv (rbF SM p t) (t0 :: ts) (b :: a :: r) = rbEv (rbF SM p t) ts ((if t0.1 = 2 then a && b else a || b) :: r) := by
            show rbEv _ ts (rbSt _ t0 (b :: a :: r)) = _
            unfold rbSt
            rw [if_neg (by omega), if_neg (by omega)]
          rcases k0 with k0 | k0
          · have e0 : rbEM t0 = -38 := by unfold rbEM; rw [if_neg (by omega), if_neg (by omega), if_pos k0]
            rw [if_pos k0] at hev
            rw [e0, kB_p (by rfl), kO_p (rb_in2 (by omega) (by decide))]
            cases a
            · rw [kB_p (by rfl)]
              exact fin false hev
            · rw [kB_n (by decide), kO_p (rb_in2 (by omega) (by decide))]
              cases b
              · rw [kB_p (by rfl)]
                exact fin false hev
              · rw [kB_n (by decide)]
                exact fin true hev
          · have e0 : rbEM t0 = -124 := by unfold rbEM; rw [if_neg (by omega), if_neg (by omega), if_neg (by omega)]
            rw [if_neg (by omega)] at hev
            rw [e0, kB_n (by decide), kO_p (rb_in2 (by omega) (by decide))]
            cases a
            · rw [kB_p (by rfl), kO_p (rb_in2 (by omega) (by decide))]
              cases b
              · rw [kB_p (by rfl)]
                exact fin false hev
              · rw [kB_n (by decide)]
                exact fin true hev
            · rw [kB_n (by decide)]
              exact fin true hev
