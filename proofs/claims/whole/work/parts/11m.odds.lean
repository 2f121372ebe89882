/-! B: fractions; limit, coupons, without, odds, mean -/
def rbGd (a b : Nat) : Nat → Nat
  | 0 => 1
  | d + 1 => if d + 1 ≤ 1 then 1 else if a % (d + 1) = 0 ∧ b % (d + 1) = 0 then d + 1 else rbGd a b d
theorem rbGd_d (a b : Nat) : ∀ d : Nat, rbGd a b d ∣ a ∧ rbGd a b d ∣ b
  | 0 => ⟨Nat.one_dvd _, Nat.one_dvd _⟩
  | d + 1 => by
    show (if d + 1 ≤ 1 then 1 else if a % (d + 1) = 0 ∧ b % (d + 1) = 0 then d + 1 else rbGd a b d) ∣ a ∧ (if d + 1 ≤ 1 then 1 else if a % (d + 1) = 0 ∧ b % (d + 1) = 0 then d + 1 else rbGd a b d) ∣ b
    by_cases c : d + 1 ≤ 1
    · rw [if_pos c]; exact ⟨Nat.one_dvd _, Nat.one_dvd _⟩
    · rw [if_neg c]
      by_cases e : a % (d + 1) = 0 ∧ b % (d + 1) = 0
      · rw [if_pos e]; exact ⟨Nat.dvd_of_mod_eq_zero e.1, Nat.dvd_of_mod_eq_zero e.2⟩
      · rw [if_neg e]; exact rbGd_d a b d
theorem rbGd_m (a b : Nat) {e : Nat} (ha : e ∣ a) (hb : e ∣ b) (h1 : 1 ≤ e) : ∀ d : Nat, e ≤ d → e ≤ rbGd a b d
  | 0, h => by omega
  | d + 1, h => by
    show e ≤ (if d + 1 ≤ 1 then 1 else if a % (d + 1) = 0 ∧ b % (d + 1) = 0 then d + 1 else rbGd a b d)
    by_cases c : d + 1 ≤ 1
    · rw [if_pos c]; omega
    · rw [if_neg c]
      by_cases q : a % (d + 1) = 0 ∧ b % (d + 1) = 0
      · rw [if_pos q]; exact h
      · rw [if_neg q]
        have : e ≠ d + 1 := by
          intro q2
          subst q2
          exact q ⟨Nat.mod_eq_zero_of_dvd ha, Nat.mod_eq_zero_of_dvd hb⟩
        exact rbGd_m a b ha hb h1 d (by omega)
theorem rbGd_g (a : Nat) {b : Nat} (hb : 1 ≤ b) : rbGd a b b = Nat.gcd b a := by
  have h0 : 0 < Nat.gcd b a := Nat.gcd_pos_of_pos_left a (by omega)
  apply Nat.le_antisymm
  · exact Nat.le_of_dvd h0 (Nat.dvd_gcd (rbGd_d a b b).2 (rbGd_d a b b).1)
  · exact rbGd_m a b (Nat.gcd_dvd_right b a) (Nat.gcd_dvd_left b a) h0 b (Nat.le_of_dvd (by omega) (Nat.gcd_dvd_left b a))
theorem rb_rem {a d : Nat} (ha : a < 2 ^ 31) (h0 : 0 < d) (hd : d < 2 ^ 31) : (nI a - nI a / nI d * nI d = 0) ↔ a % d = 0 := by
  rw [pk_rem ha h0 hd, show (0 : Int32) = nI 0 from rfl, nI_eq (by have := Nat.mod_lt a h0; omega) (by decide)]
theorem rb_clow (N : Nat) {a b : Nat} {part : Int32} (ha : a < 2 ^ 31) (hb : b < 2 ^ 31) : ∀ (d n : Nat), d ≤ 7 → d + 1 < n → f_X11_lowest_l22 N n (nI a) (nI b) part 1 (nI d) = f_X11_lowest_b56 N (nI a) (nI b) part (nI (rbGd a b d))
  | d, 0, _, h => by omega
  | d, 1, _, h => by omega
  | 0, n + 2, _, _ => by
    rw [s_X11_lowest_l22]
    show kB _ _ _ = _
    rw [kB_p (by decide)]
    rfl
  | d + 1, n + 2, h7, h => by
    have ih := rb_clow N (part := part) ha hb d (n + 1) (by omega) (by omega)
    rw [s_X11_lowest_l22]
    show kB _ _ _ = _
    by_cases c : d + 1 ≤ 1
    · have : d = 0 := by omega
      subst this
      rw [kB_p (by decide)]
      rfl
    · have e : rbGd a b (d + 1) = if a % (d + 1) = 0 ∧ b % (d + 1) = 0 then d + 1 else rbGd a b d := by
        show (if d + 1 ≤ 1 then 1 else _) = _
        rw [if_neg c]
      have hz : ¬ nI (d + 1) = 0 := nI_ne0 (by omega) (by omega)
      have hm : nI (d + 1) + (-1) = nI d := pk_m1 d
      rw [kB_n (show ¬ nI (d + 1) ≤ (1 : Int32) from nI_ge (a := 1) (by omega) (by omega)), kB_p (by decide), kO_p hz, kL_p, e]
      by_cases c1 : a % (d + 1) = 0
      · rw [kB_p ((rb_rem ha (by omega) (by omega)).mpr c1), kO_p hz, kL_p]
        by_cases c2 : b % (d + 1) = 0
        · rw [kB_p ((rb_rem hb (by omega) (by omega)).mpr c2), kL_p, hm, if_pos ⟨c1, c2⟩, s_X11_lowest_l22]
          show kB _ _ _ = _
          by_cases c3 : nI d ≤ 1
          · rw [kB_p c3]
          · rw [kB_n c3, kB_n]
            intro q
            exact c ((nI_leI (a := d + 1) (b := 1) (by omega) (by decide)).mp (by rw [q]; decide))
        · rw [kB_n (fun q => c2 ((rb_rem hb (by omega) (by omega)).mp q)), kL_p, hm, if_neg (fun q => c2 q.2)]
          exact ih
      · rw [kB_n (fun q => c1 ((rb_rem ha (by omega) (by omega)).mp q)), kL_p, hm, if_neg (fun q => c1 q.1)]
        exact ih
theorem rb_mdiv (N : Nat) (SM : zMS) : ∀ (n y x : Nat), x < 2 ^ 31 → y < 2 ^ 31 → y < n → f_X12_divisor_l5 N SM n (nI x) (nI y) = some (nI (Nat.gcd y x))
  | 0, y, x, _, _, h => by omega
  | n + 1, 0, x, _, _, _ => by
    rw [s_X12_divisor_l5]
    show kB _ _ _ = _
    rw [kB_p (by decide), Nat.gcd_zero_left]
  | n + 1, y + 1, x, hx, hy, h => by
    have hm := Nat.mod_lt x (show 0 < y + 1 by omega)
    rw [s_X12_divisor_l5]
    show kB _ _ _ = _
    rw [kB_n (nI_ne0 (by omega) hy), kO_p (nI_ne0 (by omega) hy), kL_p, pk_rem hx (by omega) hy, rb_mdiv N SM n (x % (y + 1)) (y + 1) hy (by omega) (by omega)]
    rw [Nat.gcd_rec (y + 1) x]
theorem rb_low {N : Nat} (SM : zMS) {a b : Nat} {part : Int32} (hN : 101 ≤ N) (ha : a < 2 ^ 31) (h1 : 1 ≤ b) (h7 : b ≤ 7) (hp : ¬ part < 0) (hp1 : part ≤ 1) : ∃ v : Int64, f_X11_lowest N (nI a) (nI b) part = some v ∧ f_X12_lowest N SM (nI a) (nI b) part = some v := by
  have hg := rbGd_g a h1
  have h0 : 0 < Nat.gcd b a := Nat.gcd_pos_of_pos_left a (by omega)
  have hle : Nat.gcd b a ≤ b := Nat.le_of_dvd (by omega) (Nat.gcd_dvd_left b a)
  have hz : ¬ nI (Nat.gcd b a) = 0 := nI_ne0 h0 (by omega)
  unfold f_X11_lowest f_X12_lowest f_X12_divisor
  rw [kB_n (nI_nle (by omega) (by omega)), kB_n hp, kB_p hp1, rb_clow N ha (by omega) b N h7 (by omega), hg, rb_mdiv N SM N b a ha (by omega) (by omega), kC_p]
  unfold f_X11_lowest_b56
  by_cases c : part = 0
  · simp only [kB_p c, kO_p hz, kL_p]; exact ⟨_, rfl, rfl⟩
  · simp only [kB_n c, kO_p hz, kL_p]; exact ⟨_, rfl, rfl⟩
theorem rbK.lim {S : zHS} {SM : zMS} {SD : List (Nat × zPS)} {nT nP l : Nat} {L : List rbCl} (h1 : 1 ≤ l) (h2 : l ≤ 99) (h : rbK S SM SD nT nP L) : rbK (hSI S 18 (nI l)) (mSI SM 32 (nI l)) SD nT nP L := by
  obtain ⟨a, b, c, d, e, q, m, w, l1, l2⟩ := h
  exact ⟨a, b, c, d, e, q, rbMc.e (SM := SM) rfl rfl rfl rfl rfl rfl rfl m, w, l1, Or.inr ⟨l, h1, h2, mSI_s _ _ _, hSI_s _ _ _⟩⟩
section RBO
variable {N : Nat} {SN S : zHS} {SM SB : zMS} {SD : List (Nat × zPS)} {SE : List ((Nat → Nat) × zQS)} {ST : zTS} {nT nP p w : Nat} {L : List rbCl} {SX SR : zRS} {SK : zHS} {SV : Nat → Nat → Int64} {SG SY SZ : Nat → Int32}
theorem rb_limit_l (hN : 101 ≤ N) (hp : p < nP) (hw : SN.2.2.1 p = some w) : ∀ (j x n n' : Nat) (ST : zTS) (S : zHS) (SE : List ((Nat → Nat) × zQS)) (SM : zMS) (v0 x1 x2 x3 : Int32), x + j = 100 → 1 ≤ x → j < n → j < n' → rbVal x3 → rbNow SN SB SD SE nT nP L → rbJ (mSI SB 32 v0) SM → rbQ (f_X11_limit_l35 N SX SN SK SR SV SG SY SZ SD n ST S SE x1 w x2 x3 (nI x)) (f_X12_limit_l30 N n' SM (nI p) x1 x2 x3 (nI x)) SB SE
  | j, x, 0, n', ST, S, SE, SM, v0, x1, x2, x3, _, _, h, _, _, _, _ => by omega
  | j, x, n + 1, 0, ST, S, SE, SM, v0, x1, x2, x3, _, _, _, h, _, _, _ => by omega
  | 0, x, n + 1, n' + 1, ST, S, SE, SM, v0, x1, x2, x3, hx, _, _, _, _, hn, hj => by
    have hx : x = 100 := by omega
    subst hx
    have hend : rbJ SB (mSI SM 32 (-1)) := by
      have := hj.mI (k := 32) (v := -1)
      rw [mSI_u, mSI_id hn.2.2.2.2.1] at this
      exact this
    rw [s_X11_limit_l35, s_X12_limit_l30]
    show rbQ (kB _ _ _) (kB _ _ _) _ _
    rw [kB_p (show (99 : Int32) < nI 100 by decide), kB_p (show (100 : Int32) ≤ nI 100 by decide), kL_p]
    by_cases c : x1 = 0
    · rw [kB_p c, kB_p c]; exact ⟨_, _, _, _, _, rfl, rfl, hend, rbSE.rf⟩
    · rw [kB_n c, kB_n c]; exact ⟨_, _, _, _, _, rfl, rfl, hend, rbSE.rf⟩
  | j + 1, x, n + 1, n' + 1, ST, S, SE, SM, v0, x1, x2, x3, hx, hx1, hn1, hn2, h3, hn, hj => by
    obtain ⟨ST1, S1, t1, t2, t3, t4, t5, t6, -, -⟩ := rb_tr hN hn ST S
    have hj2 : rbJ (mSI SB 32 (nI x)) (mSI SM 32 (nI x)) := by
      have := hj.mI (k := 32) (v := nI x)
      rw [mSI_u] at this
      exact this
    have hn0 := hn
    obtain ⟨a, b, c, ⟨o, d1, d2, d3, d4⟩, e, f, g, -⟩ := hn
    have b1 : rbE S1 SB := b.eq t2
    obtain ⟨r, ST2, S2, SE2, SM2, q1, q2, q3, q4, q5⟩ := rb_tq (S := hSI S1 18 (nI x)) (ST := ST1) (a := 7) hN ((a.eq t2).lim hx1 (by omega)) (show rbE (hSI S1 18 (nI x)) (mSI SB 32 (nI x)) from b1) ((c.eq t2).e rfl rbSE.rf) (fun M m7 m34 => rb_pos0 t3 a.1.2.2 t4 (t5.trans d1) (m7.trans d2) d3 d4 (m34.trans g)) (rb_cp0 (M := mSI SB 32 (nI x)) t6 f (by decide)) hp (show S1.2.2.1 p = some w by rw [t2.2.2.2.2.2.1 p (by have := a.2.1.2.2; omega)]; exact hw) hj2
    obtain ⟨e0, f1, f2, -⟩ := rb_earl q5 h3 (f_X12_limit_l30 N n' SM2 (nI p) x1 x2 x3 (nI (x + 1))) (f_X12_limit_l30 N n' SM2 (nI p) x1 (nI x) r (nI (x + 1)))
    rw [s_X11_limit_l35, s_X12_limit_l30]
    show rbQ (kB _ _ _) (kB _ _ _) _ _
    rw [kB_n (show ¬ (99 : Int32) < nI x from nI_nlt (a := 99) (by omega) (by decide)), kB_n (show ¬ (100 : Int32) ≤ nI x from nI_ge (b := 100) (by omega) (by decide)), t1, kD_p, kL_p, kL_p, q1, kD4_p, f1, kC_p, q2, kD_p]
    simp only [kL_p, nI_1]
    rw [f2]
    have hn' := hn0.j rbJ.rf q4
    by_cases c : e0 = 0
    · rw [kB_p c, kB_p c]
      obtain ⟨r', ST', S', SE', SM', u1, u2, u3, u4⟩ := rb_limit_l hN hp hw j (x + 1) n n' ST2 S2 SE2 SM2 (nI x) x1 x2 x3 (by omega) (by omega) (by omega) (by omega) h3 hn' (hj2.tr q3)
      exact ⟨r', ST', S', SE', SM', u1, u2, u3, q4.tr u4⟩
    · rw [kB_n c, kB_n c]
      obtain ⟨r', ST', S', SE', SM', u1, u2, u3, u4⟩ := rb_limit_l hN hp hw j (x + 1) n n' ST2 S2 SE2 SM2 (nI x) x1 (nI x) r (by omega) (by omega) (by omega) (by omega) q5 hn' (hj2.tr q3)
      exact ⟨r', ST', S', SE', SM', u1, u2, u3, q4.tr u4⟩
theorem rb_limit (hN : 101 ≤ N) (hn : rbNow SN SM SD SE nT nP L) (x1 x2 : Int32) : rbQ (f_X11_limit N SX SN SK ST S SR SV SG SY SZ SD SE x1 x2) (f_X12_limit N SM x1 x2) SM SE := by
  unfold f_X11_limit f_X12_limit
  have base : rbQ (some ((-1 : Int32), ST, S, SE)) (some ((-1 : Int32), SM)) SM SE := ⟨_, _, _, _, _, rfl, rfl, rbJ.rf, rbSE.rf⟩
  rcases rb_pc hn.1 x1 with ⟨e1, e2⟩ | ⟨p, w, k, v, hp, rfl, e1, e3, -, -, -, -, -, e2⟩
  · rw [e1, kC_p, kN_p0, e2, kC_p, kB_00]; exact base
  · rw [e1, kC_p, kN_p1, e2, kC_p, kB_10]
    by_cases c : x2 < 0
    · rw [kB_p c, rb_in0 (Or.inl c), kC_p, kB_00]; exact base
    · rw [kB_n c]
      by_cases d : x2 ≤ 1
      · rw [kB_p d, rb_in1 c d, kC_p, kB_10]
        refine rb_limit_l hN hp e3 99 1 N N ST S SE SM (-1) x2 (-5) (-5) (by omega) (by omega) (by omega) (by omega) (Or.inl rfl) hn ?_
        rw [mSI_id hn.2.2.2.2.1]
        exact rbJ.rf
      · rw [kB_n d, rb_in0 (Or.inr d), kC_p, kB_00]; exact base
theorem rb_coup_l (hN : 101 ≤ N) (hp : p < nP) (hw : SN.2.2.1 p = some w) : ∀ (j x n n' : Nat) (ST : zTS) (S : zHS) (SE : List ((Nat → Nat) × zQS)) (SM : zMS) (v0 : Int32), x + j = 21 → j < n → j + 1 < n' → rbNow SN SB SD SE nT nP L → rbJ (mSI SB 33 v0) SM → rbQ (f_X11_coupons_l17 N SX SN SK SR SV SG SY SZ SD n ST S SE w (nI x)) (f_X12_coupons_l15 N n' SM (nI p) (-5) (nI x)) SB SE
  | j, x, 0, n', ST, S, SE, SM, v0, _, h, _, _, _ => by omega
  | j, x, n + 1, 0, ST, S, SE, SM, v0, _, _, h, _, _ => by omega
  | 0, x, n + 1, n' + 1, ST, S, SE, SM, v0, hx, _, _, hn, hj => by
    have hx : x = 21 := by omega
    subst hx
    have hend : rbJ SB (mSI SM 33 (-1)) := by
      have := hj.mI (k := 33) (v := -1)
      rw [mSI_u, mSI_id hn.2.2.2.2.2.1] at this
      exact this
    rw [s_X11_coupons_l17, s_X12_coupons_l15]
    show rbQ (kB _ _ _) (kB _ _ _) _ _
    rw [kB_p (show (20 : Int32) < nI 21 by decide), kB_p (show (21 : Int32) ≤ nI 21 by decide), kL_p]
    exact ⟨_, _, _, _, _, rfl, rfl, hend, rbSE.rf⟩
  | j + 1, x, n + 1, n' + 1, ST, S, SE, SM, v0, hx, hn1, hn2, hn, hj => by
    obtain ⟨ST1, S1, t1, t2, t3, t4, t5, t6, -, -⟩ := rb_tr hN hn ST S
    have hj2 : rbJ (mSI SB 33 (nI x)) (mSI SM 33 (nI x)) := by
      have := hj.mI (k := 33) (v := nI x)
      rw [mSI_u] at this
      exact this
    have hn0 := hn
    obtain ⟨a, b, c, ⟨o, d1, d2, d3, d4⟩, e, f, g, -⟩ := hn
    have b1 : rbE S1 SB := b.eq t2
    obtain ⟨r, ST2, S2, SE2, SM2, q1, q2, q3, q4, q5⟩ := rb_tq (S := S1) (ST := tSI ST1 4 (nI x)) (X := mSI SB 33 (nI x)) (a := 7) hN (rbK.e (SM := SB) (SM' := mSI SB 33 (nI x)) rfl rfl rfl rfl (fun _ _ => rfl) (a.eq t2)) (show rbE S1 (mSI SB 33 (nI x)) from b1) (c.eq t2) (fun M m7 m34 => rb_pos0 t3 a.1.2.2 t4 (t5.trans d1) (m7.trans d2) d3 d4 (m34.trans g)) (Or.inr ⟨x, mSI_s _ _ _, tSI_s _ _ _, by omega⟩) hp (show S1.2.2.1 p = some w by rw [t2.2.2.2.2.2.1 p (by have := a.2.1.2.2; omega)]; exact hw) hj2
    obtain ⟨e0, f1, f2, f3, f4⟩ := rb_earl (α := Nat) q5 (Or.inl rfl : rbVal (-5)) none none
    rw [s_X11_coupons_l17, s_X12_coupons_l15]
    show rbQ (kB _ _ _) (kB _ _ _) _ _
    rw [kB_n (show ¬ (20 : Int32) < nI x from nI_nlt (a := 20) (by omega) (by decide)), kB_n (show ¬ (21 : Int32) ≤ nI x from nI_ge (b := 21) (by omega) (by decide)), t1, kD_p, kL_p, q1, kD4_p, kB_n (show ¬ (0 : Int32) ≤ -5 by decide)]
    simp only [kL_p, nI_1]
    rw [q2, kD_p]
    have hn' := hn0.j rbJ.rf q4
    by_cases c : r = -5
    · rw [kB_p c, kB_n (fun q => f4.mp q c)]
      obtain ⟨r', ST', S', SE', SM', u1, u2, u3, u4⟩ := rb_coup_l hN hp hw j (x + 1) n n' ST2 S2 SE2 SM2 (nI x) (by omega) (by omega) (by omega) hn' (hj2.tr q3)
      exact ⟨r', ST', S', SE', SM', u1, u2, u3, q4.tr u4⟩
    · rw [kB_n c, kB_p (f4.mpr c)]
      have hend : rbJ SB (mSI SM2 33 (-1)) := by
        have := (hj2.tr q3).mI (k := 33) (v := -1)
        rw [mSI_u, mSI_id f] at this
        exact this
      refine ⟨_, _, _, _, mSI SM2 33 (-1), rfl, ?_, hend, q4⟩
      obtain ⟨m, rfl⟩ : ∃ m, n' = m + 1 := ⟨n' - 1, by omega⟩
      rw [s_X12_coupons_l15]
      show kB _ _ _ = _
      by_cases c2 : (21 : Int32) ≤ nI (x + 1)
      · rw [kB_p c2, kL_p]
      · rw [kB_n c2, kB_p (nI_pos' (by omega)), kL_p]
theorem rb_coup (hN : 101 ≤ N) (hn : rbNow SN SM SD SE nT nP L) (x1 : Int32) : rbQ (f_X11_coupons N SX SN SK ST S SR SV SG SY SZ SD SE x1) (f_X12_coupons N SM x1) SM SE := by
  unfold f_X11_coupons f_X12_coupons
  have base : rbQ (some ((-1 : Int32), ST, S, SE)) (some ((-1 : Int32), SM)) SM SE := ⟨_, _, _, _, _, rfl, rfl, rbJ.rf, rbSE.rf⟩
  rcases rb_pc hn.1 x1 with ⟨e1, e2⟩ | ⟨p, w, k, v, hp, rfl, e1, e3, -, -, -, -, -, e2⟩
  · rw [e1, kC_p, kN_p0, e2, kC_p, kB_00]; exact base
  · rw [e1, kC_p, kN_p1, e2, kC_p, kB_10]
    refine rb_coup_l hN hp e3 21 0 N N ST S SE SM (-1) (by omega) (by omega) (by omega) hn ?_
    rw [mSI_id hn.2.2.2.2.2.1]
    exact rbJ.rf
end RBO
