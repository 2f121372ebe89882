/-! B: tape, shift -/
theorem mSL_s (S : zMS) (k : Nat) (g : Nat → Int64) : (mSL S k g).2.2 k = g := va_up_self _ _ _
theorem mSL_o (S : zMS) {k j : Nat} (g : Nat → Int64) (h : j ≠ k) : (mSL S k g).2.2 j = S.2.2 j := va_up_ne _ _ h
section RBSH
variable {N : Nat} {SX SR : zRS} {SN SK S : zHS} {ST : zTS} {SM SM' : zMS} {SV SV' : Nat → Nat → Int64} {SG SY SZ : Nat → Int32} {SD : List (Nat × zPS)} {SE : List ((Nat → Nat) × zQS)}
/-- only the items of tapes differ -/
def rbL (A B : zMS) : Prop := B.1 = A.1 ∧ B.2.1 = A.2.1 ∧ ∀ k : Nat, k ≠ 74 → k ≠ 75 → B.2.2 k = A.2.2 k
theorem rb_tape0 (N : Nat) {t : Nat} (ht : t < 6) (SX : zRS) : ∀ (j x n n' : Nat) (V : Nat → Nat → Int64) (A : zMS), x + j = 60 → j < n → j < n' → ∃ (V' : Nat → Nat → Int64) (B : zMS), f_X11_tape_l74 N SN SK ST S SR SG SY SZ SD SE n SX V (nI t) (nI x) = some (1, SX, V') ∧ f_X12_tape_l69 N n' A (nI t) (nI x) = some (1, B) ∧ B.1 = A.1 ∧ B.2.1 = A.2.1 ∧ (∀ i : Nat, x ≤ i → i < 60 → V' t i = 0 ∧ B.2.2 74 (60 * t + i) = 0) ∧ (∀ t2 i : Nat, t2 < 6 → i < 60 → (t2 ≠ t ∨ i < x) → V' t2 i = V t2 i ∧ B.2.2 74 (60 * t2 + i) = A.2.2 74 (60 * t2 + i))
  | j, x, 0, n', V, A, _, h, _ => by omega
  | j, x, n + 1, 0, V, A, _, _, h => by omega
  | 0, x, n + 1, n' + 1, V, A, hx, _, _ => by
    have hx : x = 60 := by omega
    subst hx
    refine ⟨V, A, ?_, ?_, rfl, rfl, fun i h1 h2 => by omega, fun _ _ _ _ _ => ⟨rfl, rfl⟩⟩
    · rw [s_X11_tape_l74]
      show kB _ _ _ = _
      rw [kB_p (show (60 : Int32) ≤ nI 60 by decide)]
    · rw [s_X12_tape_l69]
      show kB _ _ _ = _
      rw [kB_p (show (60 : Int32) ≤ nI 60 by decide)]
  | j + 1, x, n + 1, n' + 1, V, A, hx, hn1, hn2 => by
    obtain ⟨V', B, b1, b2, b3, b4, b5, b6⟩ := rb_tape0 N ht SX j (x + 1) n n' (va_up V t (vp_updL (V t) x 0)) (mSL A 74 (vp_updL (A.2.2 74) (60 * t + x) 0)) (by omega) (by omega) (by omega)
    have e60 : (60 : Int32) = nI 60 := rfl
    have h60 : ¬ (60 : Int32) ≤ nI x := nI_ge (b := 60) (by omega) (by omega)
    refine ⟨V', B, ?_, ?_, b3, b4, ?_, ?_⟩
    · rw [s_X11_tape_l74]
      show kB _ _ _ = _
      rw [kB_n h60, kO_p (nI_in ht (by decide)), kO_p (nI_in (by omega) (by decide)), nI_clamp (by omega), nI_clamp (by omega), kL_p, kL_p, nI_1, b1]
    · rw [s_X12_tape_l69]
      show kB _ _ _ = _
      rw [kB_n h60, kL_p, kL_p, e60, pk_mul, nI_add, kO_p (nI_in (by omega) (by decide)), nI_clamp (by omega), kL_p, kL_p, nI_1, b2]
    · intro i h1 h2
      by_cases q : i = x
      · subst q
        have := b6 t i ht h2 (Or.inr (by omega))
        rw [this.1, this.2, va_up_self, pk_uLs, mSL_s, pk_uLs]
        exact ⟨rfl, rfl⟩
      · exact b5 i (by omega) h2
    · intro t2 i h1 h2 h3
      have := b6 t2 i h1 h2 (by omega)
      rw [this.1, this.2, mSL_s, pk_uLn (by omega)]
      by_cases q : t2 = t
      · subst q
        rw [va_up_self, pk_uLn (by omega)]
        exact ⟨rfl, rfl⟩
      · rw [va_up_ne _ _ q]
        exact ⟨rfl, rfl⟩
theorem rb_tape (hN : 101 ≤ N) (h : rbAll SX SN SK SR SV SG SD SE SM) (x1 x2 x3 : Int32) : ∃ r SX' SV' SM', f_X11_tape N SX SN SK ST S SR SV SG SY SZ SD SE x1 x2 x3 = some (r, SX', SV') ∧ f_X12_tape N SM x1 x2 x3 = some (r, SM') ∧ rbAll SX' SN SK SR SV' SG SD SE SM' := by
  have h0 := h
  obtain ⟨nT, nP, L, HS, -, -, -, -, -, -, g, -⟩ := h
  unfold f_X11_tape f_X12_tape
  rcases rb_tape6 (SM := SM) x1 with ⟨q, e⟩ | ⟨t, ht, rfl, e⟩
  · rw [e, kC_p, kB_00]
    by_cases c : x1 < 0
    · rw [kB_p c]; exact ⟨_, _, _, _, rfl, rfl, h0⟩
    · rw [kB_n c, kB_n (q.resolve_left c)]; exact ⟨_, _, _, _, rfl, rfl, h0⟩
  · rw [e, kC_p, kB_10, kB_n (nI_pos (by omega)), kB_p (show nI t < (6 : Int32) from nI_lt (b := 6) ht (by decide))]
    by_cases c1 : x2 < -1
    · rw [kB_p c1, rb_in0 (Or.inl c1), kC_p, kB_00]; exact ⟨_, _, _, _, rfl, rfl, h0⟩
    · have l54 : x2 < 5 ↔ x2 ≤ 4 := by
        rw [Int32.lt_iff_toInt_lt, Int32.le_iff_toInt_le]
        have z5 : (5 : Int32).toInt = 5 := rfl
        have z4 : (4 : Int32).toInt = 4 := rfl
        omega
      rw [kB_n c1]
      by_cases c2 : x2 ≤ 4
      · rw [kB_p (l54.mpr c2), rb_in1 c1 c2, kC_p, kB_10]
        have c3 : x2 = -1 ∧ x2 < 0 ∧ ¬ 0 ≤ x2 ∨ ¬ x2 < 0 ∧ 0 ≤ x2 ∧ ∃ k : Nat, k < 5 ∧ x2 = nI k := by
          by_cases q : x2 < 0
          · left
            refine ⟨?_, q, fun q2 => absurd q (Int32.not_lt.mpr q2)⟩
            rw [Int32.lt_iff_toInt_lt] at q c1
            have z0 : (0 : Int32).toInt = 0 := rfl
            have z1 : (-1 : Int32).toInt = -1 := rfl
            apply Int32.toInt_inj.mp
            omega
          · right
            obtain ⟨k, hk, rfl⟩ := nI_of2 (M := 4) (n := 4) rfl q c2
            exact ⟨q, Int32.not_lt.mp q, k, by omega, rfl⟩
        have jt : ¬ (nI t < 0 ∨ 6 ≤ t) := rb_in2 ht (by decide)
        -- what is laid then
        have lay : ∀ (s : Int32) (z : Nat), z ≤ 60 → (s = -1 ∨ ∃ k : Nat, k < 5 ∧ s = nI k) → ∃ V' B, f_X11_tape_l74 N SN SK ST S SR SG SY SZ SD SE N (rSA (rSA SX 5 (upd (SX.2 5) t s)) 6 (upd (SX.2 6) t (nI z))) SV (nI t) 0 = some (1, rSA (rSA SX 5 (upd (SX.2 5) t s)) 6 (upd (SX.2 6) t (nI z)), V') ∧ f_X12_tape_l69 N N (mSA (mSA SM 72 (upd (SM.2.1 72) t s)) 73 (upd (SM.2.1 73) t (nI z))) (nI t) 0 = some (1, B) ∧ rbAll (rSA (rSA SX 5 (upd (SX.2 5) t s)) 6 (upd (SX.2 6) t (nI z))) SN SK SR V' SG SD SE B := by
          intro s z hz hs
          obtain ⟨V', B, b1, b2, b3, b4, b5, b6⟩ := rb_tape0 (SN := SN) (SK := SK) (ST := ST) (S := S) (SR := SR) (SG := SG) (SY := SY) (SZ := SZ) (SD := SD) (SE := SE) N ht (rSA (rSA SX 5 (upd (SX.2 5) t s)) 6 (upd (SX.2 6) t (nI z))) 60 0 N N SV (mSA (mSA SM 72 (upd (SM.2.1 72) t s)) 73 (upd (SM.2.1 73) t (nI z))) (by omega) (by omega) (by omega)
          refine ⟨V', B, b1, b2, ?_⟩
          have ha : ∀ k : Nat, k ≠ 72 → k ≠ 73 → B.2.1 k = SM.2.1 k := fun k k1 k2 => by rw [b4, mSA_o _ _ k2, mSA_o _ _ k1]
          refine rbAll.o (SM := SM) (SR := SR) (SX := SX) (SV := SV) (SG := SG) (fun k _ => by rw [b3]; rfl) (fun k hk => ha k (by intro e; subst e; exact hk (by decide)) (by intro e; subst e; exact hk (by decide))) rfl rfl (fun k => ?_) (fun k => ?_) (fun _ => ?_) h0
          · unfold rbTx
            rw [b3, ha 19 (by decide) (by decide)]
            exact k
          · unfold rbTg
            rw [b3, ha 71 (by decide) (by decide)]
            exact k
          · intro t2 ht2
            obtain ⟨p1, p2, ⟨z2, p3, p4, p5⟩, p6⟩ := g t2 ht2
            rw [b4]
            show (upd (SX.2 5) t s t2 = -1 ∨ ∃ k, k < 5 ∧ upd (SX.2 5) t s t2 = nI k) ∧ upd (SM.2.1 72) t s t2 = upd (SX.2 5) t s t2 ∧ (∃ z', z' ≤ 60 ∧ upd (SX.2 6) t (nI z) t2 = nI z' ∧ upd (SM.2.1 73) t (nI z) t2 = nI z') ∧ _
            by_cases q : t2 = t
            · subst q
              rw [pk_us, pk_us, pk_us, pk_us]
              refine ⟨hs, rfl, ⟨z, hz, rfl, rfl⟩, fun i hi => ?_⟩
              obtain ⟨v1, v2⟩ := b5 i (by omega) hi
              rw [v1, v2]
            · rw [pk_un q, pk_un q, pk_un q, pk_un q]
              refine ⟨p1, p2, ⟨z2, p3, p4, p5⟩, fun i hi => ?_⟩
              obtain ⟨v1, v2⟩ := b6 t2 i ht2 hi (Or.inl q)
              rw [v1, v2]
              exact p6 i hi
        rcases c3 with ⟨s0, s1, s2⟩ | ⟨s1, s2, k, k5, s0⟩
        · obtain ⟨V', B, b1, b2, b3⟩ := lay x2 0 (by omega) (Or.inl s0)
          rw [kB_p s1, kB_p s1]
          unfold f_X11_tape_b38 f_X12_tape_b33
          rw [kB_p s1, kB_p s1]
          unfold f_X11_tape_b49 f_X12_tape_b44
          simp only [kL_p, nI_clamp (show t < 2 ^ 31 by omega), kO_p jt, kB_n s2]
          exact ⟨_, _, _, _, b1, b2, b3⟩
        · rw [kB_n s1, kB_n s1]
          by_cases c4 : x3 ≤ 60
          · rw [kB_p c4, kB_p c4]
            unfold f_X11_tape_b38 f_X12_tape_b33
            rw [kB_n s1, kB_n s1]
            by_cases c5 : 0 ≤ x3
            · obtain ⟨z, hz, rfl⟩ := nI_of2 (M := 60) (n := 60) rfl (Int32.not_lt.mpr c5) c4
              obtain ⟨V', B, b1, b2, b3⟩ := lay x2 z hz (Or.inr ⟨k, k5, s0⟩)
              rw [kB_p c5, kB_p c5]
              unfold f_X11_tape_b49 f_X12_tape_b44
              simp only [kL_p, nI_clamp (show t < 2 ^ 31 by omega), kO_p jt, kB_p s2]
              exact ⟨_, _, _, _, b1, b2, b3⟩
            · rw [kB_n c5, kB_n c5]; exact ⟨_, _, _, _, rfl, rfl, h0⟩
          · rw [kB_n c4, kB_n c4]; exact ⟨_, _, _, _, rfl, rfl, h0⟩
      · rw [kB_n (fun q => c2 (l54.mp q)), rb_in0 (Or.inr c2), kC_p, kB_00]; exact ⟨_, _, _, _, rfl, rfl, h0⟩
/-- the reference's shift: aside, and back -/
theorem rb_sh2 (N : Nat) {t b m : Nat} (ht : t < 6) (hb : b + m ≤ 60) : ∀ (j x n : Nat) (A : zMS), x + j = m → j < n → ∃ B : zMS, f_X12_shift_l141 N n A (nI t) (nI b) (nI m) (nI x) = some (nI m, B) ∧ B.1 = A.1 ∧ B.2.1 = A.2.1 ∧ ∀ i : Nat, B.2.2 74 i = if 60 * t + b + x ≤ i ∧ i < 60 * t + b + m then A.2.2 75 (i - (60 * t + b)) else A.2.2 74 i
  | j, x, 0, A, _, h => by omega
  | 0, x, n + 1, A, hx, _ => by
    have hx : x = m := by omega
    subst hx
    refine ⟨A, ?_, rfl, rfl, fun i => by rw [if_neg (by omega)]⟩
    rw [s_X12_shift_l141]
    show kB _ _ _ = _
    rw [kB_p (nI_le (by omega) (by omega))]
  | j + 1, x, n + 1, A, hx, hn => by
    obtain ⟨B, b1, b2, b3, b4⟩ := rb_sh2 N ht hb j (x + 1) n (mSL A 74 (vp_updL (A.2.2 74) (60 * t + b + x) (A.2.2 75 x))) (by omega) (by omega)
    have e60 : (60 : Int32) = nI 60 := rfl
    refine ⟨B, ?_, b2, b3, fun i => ?_⟩
    · rw [s_X12_shift_l141]
      show kB _ _ _ = _
      rw [kB_n (nI_ge (by omega) (by omega)), kL_p, kL_p, kL_p, e60, pk_mul, nI_add, nI_add, kO_p (nI_in (by omega) (by decide)), kO_p (nI_in (by omega) (by decide)), nI_clamp (by omega), nI_clamp (by omega), kL_p, kL_p, nI_1, b1]
    · rw [b4 i, mSL_s, mSL_o _ _ (show (75 : Nat) ≠ 74 by decide)]
      by_cases q : i = 60 * t + b + x
      · subst q
        rw [if_neg (by omega), if_pos (by omega), pk_uLs, show 60 * t + b + x - (60 * t + b) = x by omega]
      · rw [pk_uLn q]
        by_cases q2 : 60 * t + b + (x + 1) ≤ i ∧ i < 60 * t + b + m
        · rw [if_pos q2, if_pos (by omega)]
        · rw [if_neg q2, if_neg (by omega)]
theorem rb_sh1 (N : Nat) {t a t2 b m : Nat} (ht : t < 6) (ha : a + m ≤ 60) : ∀ (j x n : Nat) (A : zMS), x + j = m → j < n → (∀ i : Nat, i < x → A.2.2 75 i = A.2.2 74 (60 * t + a + i)) → ∃ B : zMS, f_X12_shift_l104 N n A (nI t) (nI a) (nI t2) (nI b) (nI m) (nI x) = f_X12_shift_l141 N N B (nI t2) (nI b) (nI m) 0 ∧ B.1 = A.1 ∧ B.2.1 = A.2.1 ∧ B.2.2 74 = A.2.2 74 ∧ ∀ i : Nat, i < m → B.2.2 75 i = A.2.2 74 (60 * t + a + i)
  | j, x, 0, A, _, h, _ => by omega
  | 0, x, n + 1, A, hx, _, hp => by
    have hx : x = m := by omega
    subst hx
    refine ⟨A, ?_, rfl, rfl, rfl, hp⟩
    rw [s_X12_shift_l104]
    show kB _ _ _ = _
    rw [kB_p (nI_le (by omega) (by omega))]
  | j + 1, x, n + 1, A, hx, hn, hp => by
    obtain ⟨B, b1, b2, b3, b4, b5⟩ := rb_sh1 N (t2 := t2) (b := b) ht ha j (x + 1) n (mSL A 75 (vp_updL (A.2.2 75) x (A.2.2 74 (60 * t + a + x)))) (by omega) (by omega) (by
      intro i hi
      rw [mSL_s, mSL_o _ _ (show (74 : Nat) ≠ 75 by decide)]
      by_cases q : i = x
      · subst q; rw [pk_uLs]
      · rw [pk_uLn q]; exact hp i (by omega))
    have e60 : (60 : Int32) = nI 60 := rfl
    refine ⟨B, ?_, b2, b3, b4.trans (mSL_o _ _ (by decide)), fun i hi => (b5 i hi).trans (by rw [mSL_o _ _ (show (74 : Nat) ≠ 75 by decide)])⟩
    rw [s_X12_shift_l104]
    show kB _ _ _ = _
    rw [kB_n (nI_ge (by omega) (by omega)), kL_p, kL_p, kL_p, e60, pk_mul, nI_add, nI_add, kO_p (nI_in (by omega) (by decide)), kO_p (nI_in (by omega) (by decide)), nI_clamp (by omega), nI_clamp (by omega), kL_p, kL_p, nI_1, b1]
theorem rb_shift (hN : 101 ≤ N) (h : rbAll SX SN SK SR SV SG SD SE SM) (x1 x2 x3 x4 x5 : Int32) : ∃ r SV' SM', f_X11_shift SX SN SK ST S SR SV SG SY SZ SD SE x1 x2 x3 x4 x5 = some (r, SV') ∧ f_X12_shift N SM x1 x2 x3 x4 x5 = some (r, SM') ∧ rbAll SX SN SK SR SV' SG SD SE SM' := by
  have h0 := h
  obtain ⟨nT, nP, L, HS, -, -, -, -, -, -, g, -⟩ := h
  unfold f_X11_shift f_X12_shift
  have base : ∀ v : Int32, ∃ (r : Int32) (SV' : Nat → Nat → Int64) (SM' : zMS), some (v, SV) = some (r, SV') ∧ some (v, SM) = some (r, SM') ∧ rbAll SX SN SK SR SV' SG SD SE SM' := fun v => ⟨_, _, _, rfl, rfl, h0⟩
  rcases rb_tape6 (SM := SM) x1 with ⟨q, e⟩ | ⟨t, ht, rfl, e⟩
  · rw [e, kC_p, kB_00]
    by_cases c : x1 < 0
    · rw [kB_p c]; exact base _
    · rw [kB_n c, kB_p (Int32.not_lt.mp (q.resolve_left c))]; exact base _
  · rw [e, kC_p, kB_10, kB_n (nI_pos (by omega)), kB_n (show ¬ (6 : Int32) ≤ nI t from nI_ge (b := 6) ht (by decide))]
    rcases rb_tape6 (SM := SM) x3 with ⟨q, e2⟩ | ⟨t2, ht2, rfl, e2⟩
    · rw [e2, kC_p, kB_00]
      by_cases c : x3 < 0
      · rw [kB_p c]; exact base _
      · rw [kB_n c, kB_n (q.resolve_left c)]; exact base _
    · obtain ⟨h1, h2, ⟨z, z1, z2, z3⟩, h4⟩ := g t ht
      obtain ⟨g1, g2, ⟨y, y1, y2, y3⟩, g4⟩ := g t2 ht2
      have jt : ¬ (nI t < 0 ∨ 6 ≤ t) := rb_in2 ht (by decide)
      have jt2 : ¬ (nI t2 < 0 ∨ 6 ≤ t2) := rb_in2 ht2 (by decide)
      rw [e2, kC_p, kB_10, kB_n (nI_pos (by omega)), kB_p (show nI t2 < (6 : Int32) from nI_lt (b := 6) ht2 (by decide)), nI_clamp (show t < 2 ^ 31 by omega), nI_clamp (show t2 < 2 ^ 31 by omega), h2, g2, z3, y3, z2, y2]
      simp only [kO_p jt, kO_p jt2]
      rcases rb_sort h1 with ⟨s1, s2, s3⟩ | ⟨k, k5, s1, s2, s3⟩
      · rw [kB_p s1, kB_p s1]; exact base _
      · rw [kB_n s2, kB_n s2]
        rcases rb_sort g1 with ⟨u1, u2, u3⟩ | ⟨k2, k52, u1, u2, u3⟩
        · rw [kB_n u2, kB_n u2]; exact base _
        · rw [kB_p u3, kB_p u3]
          by_cases c1 : SX.2 5 t = SX.2 5 t2
          · rw [kB_p c1, kB_p c1]
            by_cases c2 : x5 < 0
            · rw [kB_p c2, kB_p c2]; exact base _
            · rw [kB_n c2, kB_n c2]
              by_cases c3 : x2 < 0
              · rw [kB_p c3, kB_p c3]; exact base _
              · rw [kB_n c3, kB_n c3]
                by_cases c4 : x4 < 0
                · rw [kB_n (fun q => absurd c4 (Int32.not_lt.mpr q)), kB_p c4]; exact base _
                · have c5 : 0 ≤ x5.toInt := by
                    rw [Int32.lt_iff_toInt_lt] at c2
                    have z0 : (0 : Int32).toInt = 0 := rfl
                    omega
                  rw [kB_p (Int32.not_lt.mp c4), kB_n c4]
                  simp only [kL_p]
                  obtain ⟨-, -, l3, -⟩ := lg_lt (x2.toInt64 + x5.toInt64) (nI z).toInt64
                  obtain ⟨-, -, -, l4⟩ := lg_lt (x4.toInt64 + x5.toInt64) (nI y).toInt64
                  rw [rb_l2, Int32.toInt_toInt64, nI_toInt (by omega)] at l3 l4
                  have m3 : nI z - x5 < x2 ↔ (z : Int) < x2.toInt + x5.toInt := by
                    rw [Int32.lt_iff_toInt_lt, rb_zsub z1 c5]
                    omega
                  have m4 : x4 ≤ nI y - x5 ↔ x4.toInt + x5.toInt ≤ y := by
                    rw [Int32.le_iff_toInt_le, rb_zsub y1 c5]
                    omega
                  by_cases d1 : (z : Int) < x2.toInt + x5.toInt
                  · rw [kB_p (l3.mpr d1), kB_p (m3.mpr d1)]; exact base _
                  · rw [kB_n (fun q => d1 (l3.mp q)), kB_n (fun q => d1 (m3.mp q))]
                    by_cases d2 : x4.toInt + x5.toInt ≤ y
                    · rw [kB_p (l4.mpr d2), kB_p (m4.mpr d2)]
                      obtain ⟨i, hi, rfl⟩ := nI_of c3
                      obtain ⟨j, hj, rfl⟩ := nI_of c4
                      obtain ⟨m, hm, rfl⟩ := nI_of c2
                      rw [nI_toInt hi, nI_toInt hm] at d1
                      rw [nI_toInt hj, nI_toInt hm] at d2
                      rw [kO_p c3, kO_p c4, kO_p c2, nI_clamp hi, nI_clamp hj, nI_clamp hm, kO_p (by omega), kO_p (by omega)]
                      obtain ⟨B, b1, b2, b3, b4, b5⟩ := rb_sh1 N (t2 := t2) (b := j) ht (show i + m ≤ 60 by omega) m 0 N SM (by omega) (by omega) (fun i hi => by omega)
                      obtain ⟨C, p1, p2, p3, p4⟩ := rb_sh2 N ht2 (show j + m ≤ 60 by omega) m 0 N B (by omega) (by omega)
                      refine ⟨nI m, _, C, rfl, (show f_X12_shift_l104 N N SM (nI t) (nI i) (nI t2) (nI j) (nI m) 0 = _ from b1).trans p1, ?_⟩
                      refine rbAll.o (SM := SM) (SR := SR) (SX := SX) (SV := SV) (SG := SG) (fun k _ => by rw [p2, b2]) (fun k _ => by rw [p3, b3]) rfl rfl (fun k => ?_) (fun k => ?_) (fun _ => ?_) h0
                      · unfold rbTx
                        rw [p2, b2, p3, b3]
                        exact k
                      · unfold rbTg
                        rw [p2, b2, p3, b3]
                        exact k
                      · intro t3 ht3
                        obtain ⟨q1, q2, q3, q4⟩ := g t3 ht3
                        rw [p3, b3]
                        refine ⟨q1, q2, q3, fun i3 hi3 => ?_⟩
                        rw [p4 (60 * t3 + i3), b4]
                        show va_up SV t2 (va_cpy (SV t) (SV t2) i j m) t3 i3 = _
                        by_cases w : t3 = t2
                        · subst w
                          rw [va_up_self]
                          by_cases w2 : j ≤ i3 ∧ i3 < j + m
                          · rw [pk_cpy_in w2.1 w2.2, if_pos (by omega), b5 _ (by omega), h4 (i + (i3 - j)) (by omega), show 60 * t + (i + (i3 - j)) = 60 * t + i + (60 * t3 + i3 - (60 * t3 + j)) by omega]
                          · rw [pk_cpy_out (by omega), if_neg (by omega)]
                            exact q4 i3 hi3
                        · rw [va_up_ne _ _ w, if_neg (by omega)]
                          exact q4 i3 hi3
                    · rw [kB_n (fun q => d2 (l4.mp q)), kB_n (fun q => d2 (m4.mp q))]; exact base _
          · rw [kB_n c1, kB_n c1]; exact base _
end RBSH
