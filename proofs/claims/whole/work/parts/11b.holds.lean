/-! B: what an E holds -/
abbrev rbTk : Type := Nat × Nat × Nat × Nat
abbrev rbCl : Type := Int32 × Int32 × List rbTk
def rbEC (t : rbTk) : Int32 := if t.1 = 0 then nI (t.2.1 * 4 + t.2.2.1 * 32 + t.2.2.2 * 128) else nI t.1
def rbEM (t : rbTk) : Int32 := if t.1 = 0 then nI (1000 * t.2.1 + 100 * t.2.2.1 + t.2.2.2) else if t.1 = 1 then -33 else if t.1 = 2 then -38 else -124
def rbTok (t : rbTk) : Prop := t.2.1 < 6 ∧ t.2.2.1 < 3 ∧ t.2.2.2 < 100
def rbCmp (x : Int32) (s n : Nat) : Bool := if s = 0 then decide (x < nI n) else if s = 1 then decide (x = nI n) else decide (nI n < x)
def rbSt (F : Nat → Int32) (t : rbTk) (st : List Bool) : List Bool :=
  if t.1 = 0 then rbCmp (F t.2.1) t.2.2.1 t.2.2.2 :: st
  else if t.1 = 1 then (match st with
    | b :: r => (!b) :: r
    | [] => [])
  else (match st with
    | b :: a :: r => (if t.1 = 2 then a && b else a || b) :: r
    | r => r)
def rbEv (F : Nat → Int32) : List rbTk → List Bool → List Bool
  | [], st => st
  | t :: ts, st => rbEv F ts (rbSt F t st)
def rbWf : List rbTk → Nat → Nat → Prop
  | [], h, h' => h = h'
  | t :: ts, h, h' => rbTok t ∧ (t.1 = 0 ∧ h + 1 ≤ 30 ∧ rbWf ts (h + 1) h' ∨ t.1 = 1 ∧ 1 ≤ h ∧ rbWf ts h h' ∨ (t.1 = 2 ∨ t.1 = 3) ∧ 2 ≤ h ∧ rbWf ts (h - 1) h')
def rbAt (f : Nat → Int32) (enc : rbTk → Int32) : Nat → List rbTk → Prop
  | _, [] => True
  | s, t :: ts => f s = enc t ∧ rbAt f enc (s + 1) ts
def rbHd : List Bool → Bool
  | b :: _ => b
  | [] => false
def rbN : List Bool → Nat
  | [] => 0
  | b :: r => 2 * rbN r + b.toNat
theorem rbN_lt : ∀ st : List Bool, rbN st < 2 ^ st.length
  | [] => by decide
  | b :: r => by
    have h := rbN_lt r
    have hb : b.toNat ≤ 1 := by cases b <;> decide
    rw [List.length_cons, Nat.pow_succ]
    show 2 * rbN r + b.toNat < _
    omega
theorem rbN_31 {st : List Bool} (h : st.length ≤ 30) : rbN st < 2 ^ 30 := Nat.lt_of_lt_of_le (rbN_lt st) (Nat.pow_le_pow_right (by decide) h)
/-- the class's code: one part's pieces -/
theorem rbEC_p {t : rbTk} (h : rbTok t) (h0 : t.1 = 0) : rbEC t &&& 3 = 0 ∧ (rbEC t >>> ((2 : Int32) &&& 31)) &&& 7 = nI t.2.1 ∧ rbEC t >>> ((7 : Int32) &&& 31) = nI t.2.2.2 ∧ (rbEC t >>> ((5 : Int32) &&& 31)) &&& 3 = nI t.2.2.1 := by
  obtain ⟨h1, h2, h3⟩ := h
  have e : rbEC t = nI (t.2.1 * 4 + t.2.2.1 * 32 + t.2.2.2 * 128) := if_pos h0
  have hb : t.2.1 * 4 + t.2.2.1 * 32 + t.2.2.2 * 128 < 2 ^ 20 := by omega
  rw [e]
  refine ⟨?_, ?_, ?_, ?_⟩
  · rw [pk_andN (by omega) 2 (by decide)]
    rw [show (t.2.1 * 4 + t.2.2.1 * 32 + t.2.2.2 * 128) % 2 ^ 2 = 0 by omega]
    rfl
  · rw [pk_shrN (by omega) _ 2 (by decide), pk_andN (by omega) 3 (by decide)]
    congr 1
    omega
  · rw [pk_shrN (by omega) _ 7 (by decide)]
    congr 1
    omega
  · rw [pk_shrN (by omega) _ 5 (by decide), pk_andN (by omega) 2 (by decide)]
    congr 1
    omega
theorem rb_lts (x : Int32) (n s : Nat) (hs : s < 3) : (nI n ≤ x → x = nI n → (nI 1 = nI s ↔ rbCmp x s n = true)) ∧ (nI n ≤ x → ¬ x = nI n → (nI 2 = nI s ↔ rbCmp x s n = true)) ∧ (¬ nI n ≤ x → (nI 0 = nI s ↔ rbCmp x s n = true)) := by
  have key : ∀ a b : Nat, a < 3 → b < 3 → (nI a = nI b ↔ a = b) := fun a b ha hb => nI_eq (by omega) (by omega)
  have h01 : (nI n ≤ x) ↔ (nI n).toInt ≤ x.toInt := Int32.le_iff_toInt_le
  have h02 : (x < nI n) ↔ x.toInt < (nI n).toInt := Int32.lt_iff_toInt_lt
  have h03 : (nI n < x) ↔ (nI n).toInt < x.toInt := Int32.lt_iff_toInt_lt
  have h04 : (x = nI n) ↔ x.toInt = (nI n).toInt := Int32.toInt_inj.symm
  refine ⟨fun a b => ?_, fun a b => ?_, fun a => ?_⟩
  · rw [key 1 s (by omega) hs]
    unfold rbCmp
    by_cases s0 : s = 0
    · subst s0; simp [h02, b]
    · by_cases s1 : s = 1
      · subst s1; simp [b]
      · simp [s0, s1, h03, b]; omega
  · rw [key 2 s (by omega) hs]
    rw [h01] at a
    rw [h04] at b
    unfold rbCmp
    by_cases s0 : s = 0
    · subst s0; simp [h02]; omega
    · by_cases s1 : s = 1
      · subst s1; simp [h04]; omega
      · have : s = 2 := by omega
        subst this; simp [h03]; omega
  · rw [key 0 s (by omega) hs]
    rw [h01] at a
    unfold rbCmp
    by_cases s0 : s = 0
    · subst s0; simp [h02]; omega
    · by_cases s1 : s = 1
      · subst s1; simp [h04]; omega
      · simp [s0, s1, h03]; omega
theorem rb_b2 (n : Nat) (b : Bool) : nI (2 * n) ||| (if b then 1 else 0) = nI (2 * n + b.toNat) := by
  have h := rb_or1 n false b
  simp only [Bool.toNat_false, Nat.add_zero, Bool.false_or] at h
  cases b
  · show nI (2 * n) ||| nI 0 = _
    rw [rb_or]
    exact congrArg nI h
  · show nI (2 * n) ||| nI 1 = _
    rw [rb_or]
    exact congrArg nI h
theorem rb_chold (N : Nat) {SQ : zQS} {F : Nat → Int32} {e : Nat} (h4 : SQ.1 4 = 6) (he : e ≤ SQ.1 3) (h3 : SQ.1 3 ≤ 100) (hF : ∀ i, i < 6 → SQ.2 4 i = F i) :
    ∀ (ts : List rbTk) (st : List Bool) (s n : Nat), rbAt (SQ.2 3) rbEC s ts → s + ts.length = e → rbWf ts st.length 1 → st.length ≤ 30 → ts.length < n → f_X2_holds_l5 N SQ n (nI e) (nI (rbN st)) (nI s) = some (if rbHd (rbEv F ts st) then 1 else 0)
  | ts, st, s, 0, _, _, _, _, hn => by omega
  | [], st, s, n + 1, ha, hs, hw, hl, hn => by
    have hs' : s = e := by simpa using hs
    subst hs'
    rw [s_X2_holds_l5]
    show kB _ _ _ = _
    rw [kB_n (nI_pos (by omega)), kB_p (nI_le (Nat.le_refl _) (by omega))]
    unfold f_X2_holds_b203
    rw [kL_p, pk_andN (Nat.lt_of_lt_of_le (rbN_31 hl) (by decide)) 1 (by decide)]
    cases st with
    | nil => cases hw
    | cons b r =>
      show kB (nI ((2 * rbN r + b.toNat) % 2 ^ 1) = 1) _ _ = _
      have : (2 * rbN r + b.toNat) % 2 ^ 1 = b.toNat := by cases b <;> simp <;> omega
      rw [this]
      cases b
      · rw [kB_n (by decide)]; rfl
      · rw [kB_p (by decide)]; rfl
  | t :: ts, st, s, n + 1, ha, hs, hw, hl, hn => by
    have hlen : s + (ts.length + 1) = e := by simpa using hs
    have ih := fun st' => rb_chold N h4 he h3 hF ts st' (s + 1) n ha.2 (by omega)
    have hN := rbN_31 hl
    rw [s_X2_holds_l5]
    show kB _ _ _ = _
    rw [kB_n (nI_pos (by omega)), kB_n (nI_ge (by omega) (by omega)), kB_n (show ¬ (Int32.ofNat (SQ.1 3)) ≤ nI s from nI_ge (by omega) (by omega)), kO_p (nI_in (by omega) (by omega))]
    simp only [kL_p]
    rw [nI_clamp (by omega), ha.1, pk_andN (n := rbN st) (by omega) 1 (by decide)]
    have hu : ((nI (rbN st)).toUInt32 >>> ((1 : Int32).toUInt32 &&& Int32.toUInt32 31)).toInt32 = nI (rbN st / 2 ^ 1) := pk_ushrN (by omega) 1 1 (by decide)
    rw [hu, nI_1]
    obtain ⟨hk, hw⟩ := hw
    rcases hw with ⟨k0, k1, k2⟩ | ⟨k0, k1, k2⟩ | ⟨k0, k1, k2⟩
    · obtain ⟨p1, p2, p3, p4⟩ := rbEC_p hk k0
      rw [p1, kB_n (by decide), kB_n (by decide), kB_n (by decide), p2, p3, h4, kB_n (show ¬ (Int32.ofNat 6) ≤ nI t.2.1 from nI_ge hk.1 (by decide)), kO_p (nI_in hk.1 (by decide)), nI_clamp (by have := hk.1; omega), hF _ hk.1]
      have hs1 := rb_lts (F t.2.1) t.2.2.2 t.2.2.1 hk.2.1
      have hsh : nI (rbN st) <<< ((1 : Int32) &&& 31) = nI (2 * rbN st) := by
        rw [pk_shlN _ 1 (by decide) (by omega)]
        congr 1
        omega
      have fin : ∀ y : Int32, (y = nI t.2.2.1 ↔ rbCmp (F t.2.1) t.2.2.1 t.2.2.2 = true) → f_X2_holds_b174 N SQ (f_X2_holds_l5 N SQ n) (nI e) (nI (rbN st)) (nI s) (rbEC t) y = some (if rbHd (rbEv F (t :: ts) st) then 1 else 0) := by
        intro y hy
        unfold f_X2_holds_b174
        simp only [kL_p]
        rw [p4, hsh, nI_1]
        have e1 : rbEv F (t :: ts) st = rbEv F ts (rbCmp (F t.2.1) t.2.2.1 t.2.2.2 :: st) := by
          show rbEv F ts (rbSt F t st) = _
          unfold rbSt
          rw [if_pos k0]
        rw [e1, ← ih (rbCmp (F t.2.1) t.2.2.1 t.2.2.2 :: st) k2 k1 (by simpa using hn)]
        have hb := rb_b2 (rbN st) (rbCmp (F t.2.1) t.2.2.1 t.2.2.2)
        by_cases hc : rbCmp (F t.2.1) t.2.2.1 t.2.2.2 = true
        · rw [kB_p (hy.mpr hc)]
          rw [hc] at hb ⊢
          rw [if_pos rfl] at hb
          rw [hb]
          rfl
        · rw [kB_n (fun q => hc (hy.mp q))]
          have hc : rbCmp (F t.2.1) t.2.2.1 t.2.2.2 = false := by simpa using hc
          rw [hc] at hb ⊢
          rw [if_neg (by decide)] at hb
          rw [hb]
          rfl
      unfold f_X2_holds_b149
      by_cases c1 : nI t.2.2.2 ≤ F t.2.1
      · rw [kB_p c1]
        by_cases c2 : F t.2.1 = nI t.2.2.2
        · rw [kB_p c2]
          exact fin 1 (hs1.1 c1 c2)
        · rw [kB_n c2]
          exact fin 2 (hs1.2.1 c1 c2)
      · rw [kB_n c1]
        exact fin 0 (hs1.2.2 c1)
    · cases st with
      | nil => simp at k1
      | cons b r =>
        have e0 : rbEC t = 1 := by unfold rbEC; rw [if_neg (by omega), k0]; rfl
        have e1 : rbEv F (t :: ts) (b :: r) = rbEv F ts ((!b) :: r) := by
          show rbEv F ts (rbSt F t (b :: r)) = _
          unfold rbSt
          rw [if_neg (by omega), if_pos k0]
        rw [e0, kB_p (by decide), e1, ← ih ((!b) :: r) k2 hl (by simpa using hn)]
        show f_X2_holds_l5 N SQ n (nI e) (nI (2 * rbN r + b.toNat) ^^^ nI 1) (nI (s + 1)) = _
        rw [rb_xor, rb_xor1]
        rfl
    · cases st with
      | nil => simp at k1
      | cons b r =>
        cases r with
        | nil => simp at k1
        | cons a r =>
          have hd : rbN (b :: a :: r) / 2 ^ 1 = 2 * rbN r + a.toNat := by
            show (2 * (2 * rbN r + a.toNat) + b.toNat) / 2 ^ 1 = _
            cases b <;> simp <;> omega
          have hm : rbN (b :: a :: r) % 2 ^ 1 = b.toNat := by
            show (2 * (2 * rbN r + a.toNat) + b.toNat) % 2 ^ 1 = _
            cases b <;> simp <;> omega
          rw [hd, hm]
          have hr : rbN (b :: a :: r) = 2 * (2 * rbN r + a.toNat) + b.toNat := rfl
          have hl2 : (a :: r).length ≤ 30 := by simp at hl ⊢; omega
          rcases k0 with k0 | k0
          · have e0 : rbEC t = 2 := by unfold rbEC; rw [if_neg (by omega), k0]; rfl
            have e1 : rbEv F (t :: ts) (b :: a :: r) = rbEv F ts ((a && b) :: r) := by
              show rbEv F ts (rbSt F t (b :: a :: r)) = _
              unfold rbSt
              rw [if_neg (by omega), if_neg (by omega)]
              show rbEv F ts ((if t.1 = 2 then a && b else a || b) :: r) = _
              rw [if_pos k0]
            rw [e0, kB_n (by decide), kB_p (by decide), e1, ← ih ((a && b) :: r) k2 hl2 (by simpa using hn)]
            cases b
            · rw [kB_n (by decide), rb_andm2 (by omega)]
              have : 2 * ((2 * rbN r + a.toNat) / 2) = 2 * rbN r + (a && false).toNat := by cases a <;> simp <;> omega
              rw [this]
              rfl
            · rw [kB_p (by decide), Bool.and_true]
              rfl
          · have e0 : rbEC t = 3 := by unfold rbEC; rw [if_neg (by omega), k0]; rfl
            have e1 : rbEv F (t :: ts) (b :: a :: r) = rbEv F ts ((a || b) :: r) := by
              show rbEv F ts (rbSt F t (b :: a :: r)) = _
              unfold rbSt
              rw [if_neg (by omega), if_neg (by omega)]
              show rbEv F ts ((if t.1 = 2 then a && b else a || b) :: r) = _
              rw [if_neg (by omega)]
            rw [e0, kB_n (by decide), kB_n (by decide), kB_p (by decide), e1, ← ih ((a || b) :: r) k2 hl2 (by simpa using hn)]
            rw [rb_or, rb_or1]
            rfl
